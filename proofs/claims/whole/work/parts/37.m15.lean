theorem T0_10' {x : Mem} : up x 15 2 0 10 = x 10 := T0_10
theorem cp11 {x : Mem} (n : Nat) (h : n < 96) : cpS x 11 0 10 0 96 11 n = x 10 n := by
  unfold cpS
  rw [if_pos (by omega)]
  congr 1
  omega
theorem RS.c96 {u v : Nat → Int32} (h : RS u) (e : ∀ n, n < 96 → v n = u n) : RS v := fun d hd s hs => (h d hd s hs).cg fun i hi => e _ (by omega)
theorem RF.c96 {u v : Nat → Int32} (h : RF u) (e : ∀ n, n < 96 → v n = u n) : RF v := fun j hj => by
  obtain ⟨a, b, ha, hb, h1, h2⟩ := h j hj
  exact ⟨a, b, ha, hb, (e _ (by omega)).trans h1, (e _ (by omega)).trans h2⟩
theorem ofF_b {x y : Mem} {j w : Nat} (h : y 10 = x 10) : ofF y j w = ofF x j w := by
  unfold ofF nxtN
  rw [h]
theorem ofS_b {x y : Mem} {d s w : Nat} (h : y 10 = x 10) : ofS y d s w = ofS x d s w := by
  unfold ofS
  rw [h]
theorem ofD_b {x y : Mem} {d w : Nat} (h : y 10 = x 10) : ofD y d w = ofD x d w := by
  unfold ofD lrM
  rw [h]
theorem ofDs_b {x y : Mem} {w : Nat} (h : y 10 = x 10) : ofDs y w = ofDs x w := by
  unfold ofDs
  rw [ofD_b h, ofD_b h, ofD_b h]
theorem cntM_b {x y : Mem} {w : Nat} (h : y 10 = x 10) (h0 : y 15 0 = x 15 0) : cntM y w = cntM x w := by
  unfold cntM
  rw [h, h0, ofDs_b h, ofDs_b h, ofDs_b h]
theorem ofF_T0 {x : Mem} {j w : Nat} : ofF (T0 x) j w = ofF x j w := ofF_b T0_10
theorem ofS_T0 {x : Mem} {d s w : Nat} : ofS (T0 x) d s w = ofS x d s w := ofS_b T0_10
theorem ofD_T0 {x : Mem} {d w : Nat} : ofD (T0 x) d w = ofD x d w := ofD_b T0_10
theorem cntM_T0 {x : Mem} {w : Nat} : cntM (T0 x) w = cntM x w := cntM_b T0_10 T0_0
set_option maxHeartbeats 4000000 in
set_option maxRecDepth 100000 in
theorem c_X9_fob_1 {l : Launch} {D : va_G} {cy : Nat → ClassId} {ad : Ads} (hI : IJ ad) (x : Mem) (p0 p1 : Int32) (h0 : inM p0 0 3 = 0) : Cti l yX9_fob cX9_fob 3 (some .int) rm_X9_fob D cy ad [.ref (ad 15 14 0), .int p0, .int p1] x (fun r y => r = 0 ∧ y = TF x 1) := by
  refine rm_entry (Qc := Qi D cy ad (fun r y => r = 0 ∧ y = TF x 1)) hI (by decide) (Nat.le_of_ble_eq_true rfl) ?_
  intro p e s m args below meth c hc
  show RM _ _ _ _ _ _ _ _ _ _ _ _ _ _ _ _ _ [(0, .ref (ad 15 14 0)), (1, .int p0), (2, .int p1)] []
  refine rm_aload_n hc dX9_fob_0 rfl rfl ?_
  refine rm_iconst (v := 0) hc dX9_fob_1 (by decide) ?_
  refine rm_put hc dX9_fob_2 fl_X9_25 dm_14 rfl (Nat.le_of_ble_eq_true rfl) ft_9_6 rfl rfl so_14_6 (rm_nm (fun x_1 ex_1 => ?_))
  refine rm_iload_n hc dX9_fob_5 rfl rfl ?_
  refine rm_calliS (As := [.int p0]) (rest := []) hc dX9_fob_6 (c_X9_isFob hI x_1 p0) ms_X9_92 (hn := rfl) (hst := rfl) (hw := Nat.le_of_ble_eq_true rfl) (hR := ⟨⟨rfl, rfl⟩, Nat.le_of_ble_eq_true rfl, Nat.le_of_ble_eq_true rfl⟩) (hnc := ⟨Nat.zero_le _, Nat.zero_le _⟩) (fun r_2 y_2 h_2 => ?_)
  obtain ⟨e_2, ey_2⟩ := h_2
  obtain rfl := ey_2.symm
  obtain rfl : r_2 = 0 := e_2.trans h0
  refine rm_if_ne (tgt := 18) hc dX9_fob_9 (by decide) (fun h => absurd h (by decide)) (fun _ => ?_)
  refine rm_aload_n hc dX9_fob_12 rfl rfl ?_
  refine rm_iconst (v := 1) hc dX9_fob_13 (by decide) ?_
  refine rm_calliV (As := [.int 1]) (rest := []) hc dX9_fob_14 (c_X9_fails hI x_1 1) mv_X9_44 dm_14 rfl rfl (hn := rfl) (hst := rfl) (hw := Nat.le_of_ble_eq_true rfl) (hR := ⟨⟨rfl, rfl⟩, Nat.le_of_ble_eq_true rfl, Nat.le_of_ble_eq_true rfl⟩) (hnc := ⟨Nat.zero_le _, Nat.zero_le _⟩) (fun r_4 y_4 h_4 => ?_)
  obtain ⟨e_4, ey_4⟩ := h_4
  exact rm_iret hc dX9_fob_17 ⟨e_4, by subst_vars; rfl⟩

set_option maxHeartbeats 4000000 in
set_option maxRecDepth 100000 in
theorem c_X9_fob_2 {l : Launch} {D : va_G} {cy : Nat → ClassId} {ad : Ads} (hI : IJ ad) (x : Mem) {j : Nat} (hj : j < 4) (p1 : Int32) (h0 : inM p1 0 4 = 0) : Cti l yX9_fob cX9_fob 3 (some .int) rm_X9_fob D cy ad [.ref (ad 15 14 0), .int (nI (j)), .int p1] x (fun r y => r = 0 ∧ y = TF x 2) := by
  refine rm_entry (Qc := Qi D cy ad (fun r y => r = 0 ∧ y = TF x 2)) hI (by decide) (Nat.le_of_ble_eq_true rfl) ?_
  intro p e s m args below meth c hc
  show RM _ _ _ _ _ _ _ _ _ _ _ _ _ _ _ _ _ [(0, .ref (ad 15 14 0)), (1, .int (nI (j))), (2, .int p1)] []
  refine rm_aload_n hc dX9_fob_0 rfl rfl ?_
  refine rm_iconst (v := 0) hc dX9_fob_1 (by decide) ?_
  refine rm_put hc dX9_fob_2 fl_X9_25 dm_14 rfl (Nat.le_of_ble_eq_true rfl) ft_9_6 rfl rfl so_14_6 (rm_nm (fun x_1 ex_1 => ?_))
  refine rm_iload_n hc dX9_fob_5 rfl rfl ?_
  refine rm_calliS (As := [.int (nI (j))]) (rest := []) hc dX9_fob_6 (c_X9_isFob hI x_1 (nI (j))) ms_X9_92 (hn := rfl) (hst := rfl) (hw := Nat.le_of_ble_eq_true rfl) (hR := ⟨⟨rfl, rfl⟩, Nat.le_of_ble_eq_true rfl, Nat.le_of_ble_eq_true rfl⟩) (hnc := ⟨Nat.zero_le _, Nat.zero_le _⟩) (fun r_2 y_2 h_2 => ?_)
  obtain ⟨e_2, ey_2⟩ := h_2
  obtain rfl := ey_2.symm
  obtain rfl : r_2 = 1 := e_2.trans (inN (n := 3) rfl (by omega) (by omega))
  refine rm_if_ne (tgt := 18) hc dX9_fob_9 (by decide) (fun _ => ?_) (fun h => absurd h (by decide))
  refine rm_iload_n hc dX9_fob_18 rfl rfl ?_
  refine rm_iconst (v := 0) hc dX9_fob_19 (by decide) ?_
  refine rm_iconst (v := 4) hc dX9_fob_20 (by decide) ?_
  refine rm_calliS (As := [.int p1, .int 0, .int 4]) (rest := []) hc dX9_fob_21 (c_X9_in hI x_1 p1 0 4) ms_X9_29 (hn := rfl) (hst := rfl) (hw := Nat.le_of_ble_eq_true rfl) (hR := ⟨⟨rfl, rfl⟩, Nat.le_of_ble_eq_true rfl, Nat.le_of_ble_eq_true rfl⟩) (hnc := ⟨Nat.zero_le _, Nat.zero_le _⟩) (fun r_4 y_4 h_4 => ?_)
  obtain ⟨e_4, ey_4⟩ := h_4
  obtain rfl := ey_4.symm
  obtain rfl : r_4 = 0 := e_4.trans h0
  refine rm_if_eq (tgt := 36) hc dX9_fob_24 (by decide) (fun _ => ?_) (fun h => absurd (by decide) h)
  refine rm_aload_n hc dX9_fob_36 rfl rfl ?_
  refine rm_iconst (v := 2) hc dX9_fob_37 (by decide) ?_
  refine rm_calliV (As := [.int 2]) (rest := []) hc dX9_fob_38 (c_X9_fails hI x_1 2) mv_X9_44 dm_14 rfl rfl (hn := rfl) (hst := rfl) (hw := Nat.le_of_ble_eq_true rfl) (hR := ⟨⟨rfl, rfl⟩, Nat.le_of_ble_eq_true rfl, Nat.le_of_ble_eq_true rfl⟩) (hnc := ⟨Nat.zero_le _, Nat.zero_le _⟩) (fun r_6 y_6 h_6 => ?_)
  obtain ⟨e_6, ey_6⟩ := h_6
  exact rm_iret hc dX9_fob_41 ⟨e_6, by subst_vars; rfl⟩

set_option maxHeartbeats 4000000 in
set_option maxRecDepth 100000 in
theorem c_X9_fob_o0 {l : Launch} {D : va_G} {cy : Nat → ClassId} {ad : Ads} (hI : IJ ad) (x : Mem) {j : Nat} (hj : j < 4) : Cti l yX9_fob cX9_fob 3 (some .int) rm_X9_fob D cy ad [.ref (ad 15 14 0), .int (nI (j)), .int 0] x (fun r y => r = ofF x j 0 ∧ y = T0 x) := by
  refine rm_entry (Qc := Qi D cy ad (fun r y => r = ofF x j 0 ∧ y = T0 x)) hI (by decide) (Nat.le_of_ble_eq_true rfl) ?_
  intro p e s m args below meth c hc
  show RM _ _ _ _ _ _ _ _ _ _ _ _ _ _ _ _ _ [(0, .ref (ad 15 14 0)), (1, .int (nI (j))), (2, .int 0)] []
  refine rm_aload_n hc dX9_fob_0 rfl rfl ?_
  refine rm_iconst (v := 0) hc dX9_fob_1 (by decide) ?_
  refine rm_put hc dX9_fob_2 fl_X9_25 dm_14 rfl (Nat.le_of_ble_eq_true rfl) ft_9_6 rfl rfl so_14_6 (rm_nm (fun x_1 ex_1 => ?_))
  refine rm_iload_n hc dX9_fob_5 rfl rfl ?_
  refine rm_calliS (As := [.int (nI (j))]) (rest := []) hc dX9_fob_6 (c_X9_isFob hI x_1 (nI (j))) ms_X9_92 (hn := rfl) (hst := rfl) (hw := Nat.le_of_ble_eq_true rfl) (hR := ⟨⟨rfl, rfl⟩, Nat.le_of_ble_eq_true rfl, Nat.le_of_ble_eq_true rfl⟩) (hnc := ⟨Nat.zero_le _, Nat.zero_le _⟩) (fun r_2 y_2 h_2 => ?_)
  obtain ⟨e_2, ey_2⟩ := h_2
  obtain rfl := ey_2.symm
  obtain rfl : r_2 = 1 := e_2.trans (inN (n := 3) rfl (by omega) (by omega))
  refine rm_if_ne (tgt := 18) hc dX9_fob_9 (by decide) (fun _ => ?_) (fun h => absurd h (by decide))
  refine rm_iload_n hc dX9_fob_18 rfl rfl ?_
  refine rm_iconst (v := 0) hc dX9_fob_19 (by decide) ?_
  refine rm_iconst (v := 4) hc dX9_fob_20 (by decide) ?_
  refine rm_calliS (As := [.int 0, .int 0, .int 4]) (rest := []) hc dX9_fob_21 (c_X9_in hI x_1 0 0 4) ms_X9_29 (hn := rfl) (hst := rfl) (hw := Nat.le_of_ble_eq_true rfl) (hR := ⟨⟨rfl, rfl⟩, Nat.le_of_ble_eq_true rfl, Nat.le_of_ble_eq_true rfl⟩) (hnc := ⟨Nat.zero_le _, Nat.zero_le _⟩) (fun r_4 y_4 h_4 => ?_)
  obtain ⟨e_4, ey_4⟩ := h_4
  obtain rfl := ey_4.symm
  obtain rfl : r_4 = 1 := e_4.trans (by decide)
  refine rm_if_eq (tgt := 36) hc dX9_fob_24 (by decide) (fun h => absurd h (by decide)) (fun _ => ?_)
  refine rm_aload_n hc dX9_fob_27 rfl rfl ?_
  refine rm_iload_n hc dX9_fob_28 rfl rfl ?_
  refine rm_iload_n hc dX9_fob_29 rfl rfl ?_
  refine rm_calliV (As := [.int (nI (j)), .int 0]) (rest := []) hc dX9_fob_30 (c_X9_ofFob hI x_1 (j := j) (by omega)) mv_X9_149 dm_14 rfl rfl (hn := rfl) (hst := rfl) (hw := Nat.le_of_ble_eq_true rfl) (hR := ⟨⟨rfl, rfl⟩, Nat.le_of_ble_eq_true rfl, Nat.le_of_ble_eq_true rfl⟩) (hnc := ⟨Nat.zero_le _, Nat.zero_le _⟩) (fun r_6 y_6 h_6 => ?_)
  obtain ⟨e_6, ey_6⟩ := h_6
  obtain rfl := ey_6.symm
  refine rm_goto (tgt := 41) hc dX9_fob_33 (by decide) ?_
  exact rm_iret hc dX9_fob_41 ⟨by rw [e_6]; subst_vars; exact ofF_T0, by subst_vars; rfl⟩

set_option maxHeartbeats 4000000 in
set_option maxRecDepth 100000 in
theorem c_X9_fob_o1 {l : Launch} {D : va_G} {cy : Nat → ClassId} {ad : Ads} (hI : IJ ad) (x : Mem) {j : Nat} (hj : j < 4) : Cti l yX9_fob cX9_fob 3 (some .int) rm_X9_fob D cy ad [.ref (ad 15 14 0), .int (nI (j)), .int 1] x (fun r y => r = ofF x j 1 ∧ y = T0 x) := by
  refine rm_entry (Qc := Qi D cy ad (fun r y => r = ofF x j 1 ∧ y = T0 x)) hI (by decide) (Nat.le_of_ble_eq_true rfl) ?_
  intro p e s m args below meth c hc
  show RM _ _ _ _ _ _ _ _ _ _ _ _ _ _ _ _ _ [(0, .ref (ad 15 14 0)), (1, .int (nI (j))), (2, .int 1)] []
  refine rm_aload_n hc dX9_fob_0 rfl rfl ?_
  refine rm_iconst (v := 0) hc dX9_fob_1 (by decide) ?_
  refine rm_put hc dX9_fob_2 fl_X9_25 dm_14 rfl (Nat.le_of_ble_eq_true rfl) ft_9_6 rfl rfl so_14_6 (rm_nm (fun x_1 ex_1 => ?_))
  refine rm_iload_n hc dX9_fob_5 rfl rfl ?_
  refine rm_calliS (As := [.int (nI (j))]) (rest := []) hc dX9_fob_6 (c_X9_isFob hI x_1 (nI (j))) ms_X9_92 (hn := rfl) (hst := rfl) (hw := Nat.le_of_ble_eq_true rfl) (hR := ⟨⟨rfl, rfl⟩, Nat.le_of_ble_eq_true rfl, Nat.le_of_ble_eq_true rfl⟩) (hnc := ⟨Nat.zero_le _, Nat.zero_le _⟩) (fun r_2 y_2 h_2 => ?_)
  obtain ⟨e_2, ey_2⟩ := h_2
  obtain rfl := ey_2.symm
  obtain rfl : r_2 = 1 := e_2.trans (inN (n := 3) rfl (by omega) (by omega))
  refine rm_if_ne (tgt := 18) hc dX9_fob_9 (by decide) (fun _ => ?_) (fun h => absurd h (by decide))
  refine rm_iload_n hc dX9_fob_18 rfl rfl ?_
  refine rm_iconst (v := 0) hc dX9_fob_19 (by decide) ?_
  refine rm_iconst (v := 4) hc dX9_fob_20 (by decide) ?_
  refine rm_calliS (As := [.int 1, .int 0, .int 4]) (rest := []) hc dX9_fob_21 (c_X9_in hI x_1 1 0 4) ms_X9_29 (hn := rfl) (hst := rfl) (hw := Nat.le_of_ble_eq_true rfl) (hR := ⟨⟨rfl, rfl⟩, Nat.le_of_ble_eq_true rfl, Nat.le_of_ble_eq_true rfl⟩) (hnc := ⟨Nat.zero_le _, Nat.zero_le _⟩) (fun r_4 y_4 h_4 => ?_)
  obtain ⟨e_4, ey_4⟩ := h_4
  obtain rfl := ey_4.symm
  obtain rfl : r_4 = 1 := e_4.trans (by decide)
  refine rm_if_eq (tgt := 36) hc dX9_fob_24 (by decide) (fun h => absurd h (by decide)) (fun _ => ?_)
  refine rm_aload_n hc dX9_fob_27 rfl rfl ?_
  refine rm_iload_n hc dX9_fob_28 rfl rfl ?_
  refine rm_iload_n hc dX9_fob_29 rfl rfl ?_
  refine rm_calliV (As := [.int (nI (j)), .int 1]) (rest := []) hc dX9_fob_30 (c_X9_ofFob_1 hI x_1 (j := j) (by omega)) mv_X9_149 dm_14 rfl rfl (hn := rfl) (hst := rfl) (hw := Nat.le_of_ble_eq_true rfl) (hR := ⟨⟨rfl, rfl⟩, Nat.le_of_ble_eq_true rfl, Nat.le_of_ble_eq_true rfl⟩) (hnc := ⟨Nat.zero_le _, Nat.zero_le _⟩) (fun r_6 y_6 h_6 => ?_)
  obtain ⟨e_6, ey_6⟩ := h_6
  obtain rfl := ey_6.symm
  refine rm_goto (tgt := 41) hc dX9_fob_33 (by decide) ?_
  exact rm_iret hc dX9_fob_41 ⟨by rw [e_6]; subst_vars; exact ofF_T0, by subst_vars; rfl⟩

set_option maxHeartbeats 4000000 in
set_option maxRecDepth 100000 in
theorem c_X9_fob_o2 {l : Launch} {D : va_G} {cy : Nat → ClassId} {ad : Ads} (hI : IJ ad) (x : Mem) {j : Nat} (hj : j < 4) : Cti l yX9_fob cX9_fob 3 (some .int) rm_X9_fob D cy ad [.ref (ad 15 14 0), .int (nI (j)), .int 2] x (fun r y => r = ofF x j 2 ∧ y = T0 x) := by
  refine rm_entry (Qc := Qi D cy ad (fun r y => r = ofF x j 2 ∧ y = T0 x)) hI (by decide) (Nat.le_of_ble_eq_true rfl) ?_
  intro p e s m args below meth c hc
  show RM _ _ _ _ _ _ _ _ _ _ _ _ _ _ _ _ _ [(0, .ref (ad 15 14 0)), (1, .int (nI (j))), (2, .int 2)] []
  refine rm_aload_n hc dX9_fob_0 rfl rfl ?_
  refine rm_iconst (v := 0) hc dX9_fob_1 (by decide) ?_
  refine rm_put hc dX9_fob_2 fl_X9_25 dm_14 rfl (Nat.le_of_ble_eq_true rfl) ft_9_6 rfl rfl so_14_6 (rm_nm (fun x_1 ex_1 => ?_))
  refine rm_iload_n hc dX9_fob_5 rfl rfl ?_
  refine rm_calliS (As := [.int (nI (j))]) (rest := []) hc dX9_fob_6 (c_X9_isFob hI x_1 (nI (j))) ms_X9_92 (hn := rfl) (hst := rfl) (hw := Nat.le_of_ble_eq_true rfl) (hR := ⟨⟨rfl, rfl⟩, Nat.le_of_ble_eq_true rfl, Nat.le_of_ble_eq_true rfl⟩) (hnc := ⟨Nat.zero_le _, Nat.zero_le _⟩) (fun r_2 y_2 h_2 => ?_)
  obtain ⟨e_2, ey_2⟩ := h_2
  obtain rfl := ey_2.symm
  obtain rfl : r_2 = 1 := e_2.trans (inN (n := 3) rfl (by omega) (by omega))
  refine rm_if_ne (tgt := 18) hc dX9_fob_9 (by decide) (fun _ => ?_) (fun h => absurd h (by decide))
  refine rm_iload_n hc dX9_fob_18 rfl rfl ?_
  refine rm_iconst (v := 0) hc dX9_fob_19 (by decide) ?_
  refine rm_iconst (v := 4) hc dX9_fob_20 (by decide) ?_
  refine rm_calliS (As := [.int 2, .int 0, .int 4]) (rest := []) hc dX9_fob_21 (c_X9_in hI x_1 2 0 4) ms_X9_29 (hn := rfl) (hst := rfl) (hw := Nat.le_of_ble_eq_true rfl) (hR := ⟨⟨rfl, rfl⟩, Nat.le_of_ble_eq_true rfl, Nat.le_of_ble_eq_true rfl⟩) (hnc := ⟨Nat.zero_le _, Nat.zero_le _⟩) (fun r_4 y_4 h_4 => ?_)
  obtain ⟨e_4, ey_4⟩ := h_4
  obtain rfl := ey_4.symm
  obtain rfl : r_4 = 1 := e_4.trans (by decide)
  refine rm_if_eq (tgt := 36) hc dX9_fob_24 (by decide) (fun h => absurd h (by decide)) (fun _ => ?_)
  refine rm_aload_n hc dX9_fob_27 rfl rfl ?_
  refine rm_iload_n hc dX9_fob_28 rfl rfl ?_
  refine rm_iload_n hc dX9_fob_29 rfl rfl ?_
  refine rm_calliV (As := [.int (nI (j)), .int 2]) (rest := []) hc dX9_fob_30 (c_X9_ofFob_2 hI x_1 (j := j) (by omega)) mv_X9_149 dm_14 rfl rfl (hn := rfl) (hst := rfl) (hw := Nat.le_of_ble_eq_true rfl) (hR := ⟨⟨rfl, rfl⟩, Nat.le_of_ble_eq_true rfl, Nat.le_of_ble_eq_true rfl⟩) (hnc := ⟨Nat.zero_le _, Nat.zero_le _⟩) (fun r_6 y_6 h_6 => ?_)
  obtain ⟨e_6, ey_6⟩ := h_6
  obtain rfl := ey_6.symm
  refine rm_goto (tgt := 41) hc dX9_fob_33 (by decide) ?_
  exact rm_iret hc dX9_fob_41 ⟨by rw [e_6]; subst_vars; exact ofF_T0, by subst_vars; rfl⟩

set_option maxHeartbeats 4000000 in
set_option maxRecDepth 100000 in
theorem c_X9_fob_o3 {l : Launch} {D : va_G} {cy : Nat → ClassId} {ad : Ads} (hI : IJ ad) (x : Mem) {j : Nat} (hj : j < 4) (hRF : RF (x 10)) : Cti l yX9_fob cX9_fob 3 (some .int) rm_X9_fob D cy ad [.ref (ad 15 14 0), .int (nI (j)), .int 3] x (fun r y => r = ofF x j 3 ∧ y = T0 x) := by
  refine rm_entry (Qc := Qi D cy ad (fun r y => r = ofF x j 3 ∧ y = T0 x)) hI (by decide) (Nat.le_of_ble_eq_true rfl) ?_
  intro p e s m args below meth c hc
  show RM _ _ _ _ _ _ _ _ _ _ _ _ _ _ _ _ _ [(0, .ref (ad 15 14 0)), (1, .int (nI (j))), (2, .int 3)] []
  refine rm_aload_n hc dX9_fob_0 rfl rfl ?_
  refine rm_iconst (v := 0) hc dX9_fob_1 (by decide) ?_
  refine rm_put hc dX9_fob_2 fl_X9_25 dm_14 rfl (Nat.le_of_ble_eq_true rfl) ft_9_6 rfl rfl so_14_6 (rm_nm (fun x_1 ex_1 => ?_))
  refine rm_iload_n hc dX9_fob_5 rfl rfl ?_
  refine rm_calliS (As := [.int (nI (j))]) (rest := []) hc dX9_fob_6 (c_X9_isFob hI x_1 (nI (j))) ms_X9_92 (hn := rfl) (hst := rfl) (hw := Nat.le_of_ble_eq_true rfl) (hR := ⟨⟨rfl, rfl⟩, Nat.le_of_ble_eq_true rfl, Nat.le_of_ble_eq_true rfl⟩) (hnc := ⟨Nat.zero_le _, Nat.zero_le _⟩) (fun r_2 y_2 h_2 => ?_)
  obtain ⟨e_2, ey_2⟩ := h_2
  obtain rfl := ey_2.symm
  obtain rfl : r_2 = 1 := e_2.trans (inN (n := 3) rfl (by omega) (by omega))
  refine rm_if_ne (tgt := 18) hc dX9_fob_9 (by decide) (fun _ => ?_) (fun h => absurd h (by decide))
  refine rm_iload_n hc dX9_fob_18 rfl rfl ?_
  refine rm_iconst (v := 0) hc dX9_fob_19 (by decide) ?_
  refine rm_iconst (v := 4) hc dX9_fob_20 (by decide) ?_
  refine rm_calliS (As := [.int 3, .int 0, .int 4]) (rest := []) hc dX9_fob_21 (c_X9_in hI x_1 3 0 4) ms_X9_29 (hn := rfl) (hst := rfl) (hw := Nat.le_of_ble_eq_true rfl) (hR := ⟨⟨rfl, rfl⟩, Nat.le_of_ble_eq_true rfl, Nat.le_of_ble_eq_true rfl⟩) (hnc := ⟨Nat.zero_le _, Nat.zero_le _⟩) (fun r_4 y_4 h_4 => ?_)
  obtain ⟨e_4, ey_4⟩ := h_4
  obtain rfl := ey_4.symm
  obtain rfl : r_4 = 1 := e_4.trans (by decide)
  refine rm_if_eq (tgt := 36) hc dX9_fob_24 (by decide) (fun h => absurd h (by decide)) (fun _ => ?_)
  refine rm_aload_n hc dX9_fob_27 rfl rfl ?_
  refine rm_iload_n hc dX9_fob_28 rfl rfl ?_
  refine rm_iload_n hc dX9_fob_29 rfl rfl ?_
  refine rm_calliV (As := [.int (nI (j)), .int 3]) (rest := []) hc dX9_fob_30 (c_X9_ofFob_3 hI x_1 (j := j) (by omega) (by subst_vars; rw [T0_10']; exact hRF)) mv_X9_149 dm_14 rfl rfl (hn := rfl) (hst := rfl) (hw := Nat.le_of_ble_eq_true rfl) (hR := ⟨⟨rfl, rfl⟩, Nat.le_of_ble_eq_true rfl, Nat.le_of_ble_eq_true rfl⟩) (hnc := ⟨Nat.zero_le _, Nat.zero_le _⟩) (fun r_6 y_6 h_6 => ?_)
  obtain ⟨e_6, ey_6⟩ := h_6
  obtain rfl := ey_6.symm
  refine rm_goto (tgt := 41) hc dX9_fob_33 (by decide) ?_
  exact rm_iret hc dX9_fob_41 ⟨by rw [e_6]; subst_vars; exact ofF_T0, by subst_vars; rfl⟩

set_option maxHeartbeats 4000000 in
set_option maxRecDepth 100000 in
theorem c_X9_fob_o4 {l : Launch} {D : va_G} {cy : Nat → ClassId} {ad : Ads} (hI : IJ ad) (x : Mem) {j : Nat} (hj : j < 4) : Cti l yX9_fob cX9_fob 3 (some .int) rm_X9_fob D cy ad [.ref (ad 15 14 0), .int (nI (j)), .int 4] x (fun r y => r = ofF x j 4 ∧ y = T0 x) := by
  refine rm_entry (Qc := Qi D cy ad (fun r y => r = ofF x j 4 ∧ y = T0 x)) hI (by decide) (Nat.le_of_ble_eq_true rfl) ?_
  intro p e s m args below meth c hc
  show RM _ _ _ _ _ _ _ _ _ _ _ _ _ _ _ _ _ [(0, .ref (ad 15 14 0)), (1, .int (nI (j))), (2, .int 4)] []
  refine rm_aload_n hc dX9_fob_0 rfl rfl ?_
  refine rm_iconst (v := 0) hc dX9_fob_1 (by decide) ?_
  refine rm_put hc dX9_fob_2 fl_X9_25 dm_14 rfl (Nat.le_of_ble_eq_true rfl) ft_9_6 rfl rfl so_14_6 (rm_nm (fun x_1 ex_1 => ?_))
  refine rm_iload_n hc dX9_fob_5 rfl rfl ?_
  refine rm_calliS (As := [.int (nI (j))]) (rest := []) hc dX9_fob_6 (c_X9_isFob hI x_1 (nI (j))) ms_X9_92 (hn := rfl) (hst := rfl) (hw := Nat.le_of_ble_eq_true rfl) (hR := ⟨⟨rfl, rfl⟩, Nat.le_of_ble_eq_true rfl, Nat.le_of_ble_eq_true rfl⟩) (hnc := ⟨Nat.zero_le _, Nat.zero_le _⟩) (fun r_2 y_2 h_2 => ?_)
  obtain ⟨e_2, ey_2⟩ := h_2
  obtain rfl := ey_2.symm
  obtain rfl : r_2 = 1 := e_2.trans (inN (n := 3) rfl (by omega) (by omega))
  refine rm_if_ne (tgt := 18) hc dX9_fob_9 (by decide) (fun _ => ?_) (fun h => absurd h (by decide))
  refine rm_iload_n hc dX9_fob_18 rfl rfl ?_
  refine rm_iconst (v := 0) hc dX9_fob_19 (by decide) ?_
  refine rm_iconst (v := 4) hc dX9_fob_20 (by decide) ?_
  refine rm_calliS (As := [.int 4, .int 0, .int 4]) (rest := []) hc dX9_fob_21 (c_X9_in hI x_1 4 0 4) ms_X9_29 (hn := rfl) (hst := rfl) (hw := Nat.le_of_ble_eq_true rfl) (hR := ⟨⟨rfl, rfl⟩, Nat.le_of_ble_eq_true rfl, Nat.le_of_ble_eq_true rfl⟩) (hnc := ⟨Nat.zero_le _, Nat.zero_le _⟩) (fun r_4 y_4 h_4 => ?_)
  obtain ⟨e_4, ey_4⟩ := h_4
  obtain rfl := ey_4.symm
  obtain rfl : r_4 = 1 := e_4.trans (by decide)
  refine rm_if_eq (tgt := 36) hc dX9_fob_24 (by decide) (fun h => absurd h (by decide)) (fun _ => ?_)
  refine rm_aload_n hc dX9_fob_27 rfl rfl ?_
  refine rm_iload_n hc dX9_fob_28 rfl rfl ?_
  refine rm_iload_n hc dX9_fob_29 rfl rfl ?_
  refine rm_calliV (As := [.int (nI (j)), .int 4]) (rest := []) hc dX9_fob_30 (c_X9_ofFob_4 hI x_1 (j := j) (by omega)) mv_X9_149 dm_14 rfl rfl (hn := rfl) (hst := rfl) (hw := Nat.le_of_ble_eq_true rfl) (hR := ⟨⟨rfl, rfl⟩, Nat.le_of_ble_eq_true rfl, Nat.le_of_ble_eq_true rfl⟩) (hnc := ⟨Nat.zero_le _, Nat.zero_le _⟩) (fun r_6 y_6 h_6 => ?_)
  obtain ⟨e_6, ey_6⟩ := h_6
  obtain rfl := ey_6.symm
  refine rm_goto (tgt := 41) hc dX9_fob_33 (by decide) ?_
  exact rm_iret hc dX9_fob_41 ⟨by rw [e_6]; subst_vars; exact ofF_T0, by subst_vars; rfl⟩

set_option maxHeartbeats 4000000 in
set_option maxRecDepth 100000 in
theorem c_X9_slot_1 {l : Launch} {D : va_G} {cy : Nat → ClassId} {ad : Ads} (hI : IJ ad) (x : Mem) (p0 p1 p2 : Int32) (h0 : isSl p0 p1 = 0) : Cti l yX9_slot cX9_slot 4 (some .int) rm_X9_slot D cy ad [.ref (ad 15 14 0), .int p0, .int p1, .int p2] x (fun r y => r = 0 ∧ y = TF x 1) := by
  refine rm_entry (Qc := Qi D cy ad (fun r y => r = 0 ∧ y = TF x 1)) hI (by decide) (Nat.le_of_ble_eq_true rfl) ?_
  intro p e s m args below meth c hc
  show RM _ _ _ _ _ _ _ _ _ _ _ _ _ _ _ _ _ [(0, .ref (ad 15 14 0)), (1, .int p0), (2, .int p1), (3, .int p2)] []
  refine rm_aload_n hc dX9_slot_0 rfl rfl ?_
  refine rm_iconst (v := 0) hc dX9_slot_1 (by decide) ?_
  refine rm_put hc dX9_slot_2 fl_X9_25 dm_14 rfl (Nat.le_of_ble_eq_true rfl) ft_9_6 rfl rfl so_14_6 (rm_nm (fun x_1 ex_1 => ?_))
  refine rm_iload_n hc dX9_slot_5 rfl rfl ?_
  refine rm_iload_n hc dX9_slot_6 rfl rfl ?_
  refine rm_calliS (As := [.int p0, .int p1]) (rest := []) hc dX9_slot_7 (c_X9_isSlot hI x_1 p0 p1) ms_X9_107 (hn := rfl) (hst := rfl) (hw := Nat.le_of_ble_eq_true rfl) (hR := ⟨⟨rfl, rfl⟩, Nat.le_of_ble_eq_true rfl, Nat.le_of_ble_eq_true rfl⟩) (hnc := ⟨Nat.zero_le _, Nat.zero_le _⟩) (fun r_2 y_2 h_2 => ?_)
  obtain ⟨e_2, ey_2⟩ := h_2
  obtain rfl := ey_2.symm
  obtain rfl : r_2 = 0 := e_2.trans h0
  refine rm_if_ne (tgt := 19) hc dX9_slot_10 (by decide) (fun h => absurd h (by decide)) (fun _ => ?_)
  refine rm_aload_n hc dX9_slot_13 rfl rfl ?_
  refine rm_iconst (v := 1) hc dX9_slot_14 (by decide) ?_
  refine rm_calliV (As := [.int 1]) (rest := []) hc dX9_slot_15 (c_X9_fails hI x_1 1) mv_X9_44 dm_14 rfl rfl (hn := rfl) (hst := rfl) (hw := Nat.le_of_ble_eq_true rfl) (hR := ⟨⟨rfl, rfl⟩, Nat.le_of_ble_eq_true rfl, Nat.le_of_ble_eq_true rfl⟩) (hnc := ⟨Nat.zero_le _, Nat.zero_le _⟩) (fun r_4 y_4 h_4 => ?_)
  obtain ⟨e_4, ey_4⟩ := h_4
  exact rm_iret hc dX9_slot_18 ⟨e_4, by subst_vars; rfl⟩

set_option maxHeartbeats 4000000 in
set_option maxRecDepth 100000 in
theorem c_X9_slot_2 {l : Launch} {D : va_G} {cy : Nat → ClassId} {ad : Ads} (hI : IJ ad) (x : Mem) {d s0 : Nat} (hd3 : d < 3) (hs : s0 < 4) (p2 : Int32) (h0 : inM p2 0 3 = 0) : Cti l yX9_slot cX9_slot 4 (some .int) rm_X9_slot D cy ad [.ref (ad 15 14 0), .int (nI (d)), .int (nI (s0)), .int p2] x (fun r y => r = 0 ∧ y = TF x 2) := by
  refine rm_entry (Qc := Qi D cy ad (fun r y => r = 0 ∧ y = TF x 2)) hI (by decide) (Nat.le_of_ble_eq_true rfl) ?_
  intro p e s m args below meth c hc
  show RM _ _ _ _ _ _ _ _ _ _ _ _ _ _ _ _ _ [(0, .ref (ad 15 14 0)), (1, .int (nI (d))), (2, .int (nI (s0))), (3, .int p2)] []
  refine rm_aload_n hc dX9_slot_0 rfl rfl ?_
  refine rm_iconst (v := 0) hc dX9_slot_1 (by decide) ?_
  refine rm_put hc dX9_slot_2 fl_X9_25 dm_14 rfl (Nat.le_of_ble_eq_true rfl) ft_9_6 rfl rfl so_14_6 (rm_nm (fun x_1 ex_1 => ?_))
  refine rm_iload_n hc dX9_slot_5 rfl rfl ?_
  refine rm_iload_n hc dX9_slot_6 rfl rfl ?_
  refine rm_calliS (As := [.int (nI (d)), .int (nI (s0))]) (rest := []) hc dX9_slot_7 (c_X9_isSlot hI x_1 (nI (d)) (nI (s0))) ms_X9_107 (hn := rfl) (hst := rfl) (hw := Nat.le_of_ble_eq_true rfl) (hR := ⟨⟨rfl, rfl⟩, Nat.le_of_ble_eq_true rfl, Nat.le_of_ble_eq_true rfl⟩) (hnc := ⟨Nat.zero_le _, Nat.zero_le _⟩) (fun r_2 y_2 h_2 => ?_)
  obtain ⟨e_2, ey_2⟩ := h_2
  obtain rfl := ey_2.symm
  obtain rfl : r_2 = 1 := e_2.trans (isSlN (by omega) (by omega))
  refine rm_if_ne (tgt := 19) hc dX9_slot_10 (by decide) (fun _ => ?_) (fun h => absurd h (by decide))
  refine rm_iload_n hc dX9_slot_19 rfl rfl ?_
  refine rm_iconst (v := 0) hc dX9_slot_20 (by decide) ?_
  refine rm_iconst (v := 3) hc dX9_slot_21 (by decide) ?_
  refine rm_calliS (As := [.int p2, .int 0, .int 3]) (rest := []) hc dX9_slot_22 (c_X9_in hI x_1 p2 0 3) ms_X9_29 (hn := rfl) (hst := rfl) (hw := Nat.le_of_ble_eq_true rfl) (hR := ⟨⟨rfl, rfl⟩, Nat.le_of_ble_eq_true rfl, Nat.le_of_ble_eq_true rfl⟩) (hnc := ⟨Nat.zero_le _, Nat.zero_le _⟩) (fun r_4 y_4 h_4 => ?_)
  obtain ⟨e_4, ey_4⟩ := h_4
  obtain rfl := ey_4.symm
  obtain rfl : r_4 = 0 := e_4.trans h0
  refine rm_if_eq (tgt := 38) hc dX9_slot_25 (by decide) (fun _ => ?_) (fun h => absurd (by decide) h)
  refine rm_aload_n hc dX9_slot_38 rfl rfl ?_
  refine rm_iconst (v := 2) hc dX9_slot_39 (by decide) ?_
  refine rm_calliV (As := [.int 2]) (rest := []) hc dX9_slot_40 (c_X9_fails hI x_1 2) mv_X9_44 dm_14 rfl rfl (hn := rfl) (hst := rfl) (hw := Nat.le_of_ble_eq_true rfl) (hR := ⟨⟨rfl, rfl⟩, Nat.le_of_ble_eq_true rfl, Nat.le_of_ble_eq_true rfl⟩) (hnc := ⟨Nat.zero_le _, Nat.zero_le _⟩) (fun r_6 y_6 h_6 => ?_)
  obtain ⟨e_6, ey_6⟩ := h_6
  exact rm_iret hc dX9_slot_43 ⟨e_6, by subst_vars; rfl⟩

set_option maxHeartbeats 4000000 in
set_option maxRecDepth 100000 in
theorem c_X9_slot_o {l : Launch} {D : va_G} {cy : Nat → ClassId} {ad : Ads} (hI : IJ ad) (x : Mem) {d s0 w : Nat} (hd3 : d < 3) (hs : s0 < 4) (hw4 : w < 4) : Cti l yX9_slot cX9_slot 4 (some .int) rm_X9_slot D cy ad [.ref (ad 15 14 0), .int (nI (d)), .int (nI (s0)), .int (nI (w))] x (fun r y => r = ofS x d s0 w ∧ y = T0 x) := by
  refine rm_entry (Qc := Qi D cy ad (fun r y => r = ofS x d s0 w ∧ y = T0 x)) hI (by decide) (Nat.le_of_ble_eq_true rfl) ?_
  intro p e s m args below meth c hc
  show RM _ _ _ _ _ _ _ _ _ _ _ _ _ _ _ _ _ [(0, .ref (ad 15 14 0)), (1, .int (nI (d))), (2, .int (nI (s0))), (3, .int (nI (w)))] []
  refine rm_aload_n hc dX9_slot_0 rfl rfl ?_
  refine rm_iconst (v := 0) hc dX9_slot_1 (by decide) ?_
  refine rm_put hc dX9_slot_2 fl_X9_25 dm_14 rfl (Nat.le_of_ble_eq_true rfl) ft_9_6 rfl rfl so_14_6 (rm_nm (fun x_1 ex_1 => ?_))
  refine rm_iload_n hc dX9_slot_5 rfl rfl ?_
  refine rm_iload_n hc dX9_slot_6 rfl rfl ?_
  refine rm_calliS (As := [.int (nI (d)), .int (nI (s0))]) (rest := []) hc dX9_slot_7 (c_X9_isSlot hI x_1 (nI (d)) (nI (s0))) ms_X9_107 (hn := rfl) (hst := rfl) (hw := Nat.le_of_ble_eq_true rfl) (hR := ⟨⟨rfl, rfl⟩, Nat.le_of_ble_eq_true rfl, Nat.le_of_ble_eq_true rfl⟩) (hnc := ⟨Nat.zero_le _, Nat.zero_le _⟩) (fun r_2 y_2 h_2 => ?_)
  obtain ⟨e_2, ey_2⟩ := h_2
  obtain rfl := ey_2.symm
  obtain rfl : r_2 = 1 := e_2.trans (isSlN (by omega) (by omega))
  refine rm_if_ne (tgt := 19) hc dX9_slot_10 (by decide) (fun _ => ?_) (fun h => absurd h (by decide))
  refine rm_iload_n hc dX9_slot_19 rfl rfl ?_
  refine rm_iconst (v := 0) hc dX9_slot_20 (by decide) ?_
  refine rm_iconst (v := 3) hc dX9_slot_21 (by decide) ?_
  refine rm_calliS (As := [.int (nI (w)), .int 0, .int 3]) (rest := []) hc dX9_slot_22 (c_X9_in hI x_1 (nI (w)) 0 3) ms_X9_29 (hn := rfl) (hst := rfl) (hw := Nat.le_of_ble_eq_true rfl) (hR := ⟨⟨rfl, rfl⟩, Nat.le_of_ble_eq_true rfl, Nat.le_of_ble_eq_true rfl⟩) (hnc := ⟨Nat.zero_le _, Nat.zero_le _⟩) (fun r_4 y_4 h_4 => ?_)
  obtain ⟨e_4, ey_4⟩ := h_4
  obtain rfl := ey_4.symm
  obtain rfl : r_4 = 1 := e_4.trans (inN (n := 3) rfl (by omega) (by omega))
  refine rm_if_eq (tgt := 38) hc dX9_slot_25 (by decide) (fun h => absurd h (by decide)) (fun _ => ?_)
  refine rm_aload_n hc dX9_slot_28 rfl rfl ?_
  refine rm_iload_n hc dX9_slot_29 rfl rfl ?_
  refine rm_iload_n hc dX9_slot_30 rfl rfl ?_
  refine rm_iload_n hc dX9_slot_31 rfl rfl ?_
  refine rm_calliV (As := [.int (nI (d)), .int (nI (s0)), .int (nI (w))]) (rest := []) hc dX9_slot_32 (c_X9_ofSlot hI x_1 (d := d) (s0 := s0) (w := w) (by omega) (by omega) (by omega)) mv_X9_152 dm_14 rfl rfl (hn := rfl) (hst := rfl) (hw := Nat.le_of_ble_eq_true rfl) (hR := ⟨⟨rfl, rfl⟩, Nat.le_of_ble_eq_true rfl, Nat.le_of_ble_eq_true rfl⟩) (hnc := ⟨Nat.zero_le _, Nat.zero_le _⟩) (fun r_6 y_6 h_6 => ?_)
  obtain ⟨e_6, ey_6⟩ := h_6
  obtain rfl := ey_6.symm
  refine rm_goto (tgt := 43) hc dX9_slot_35 (by decide) ?_
  exact rm_iret hc dX9_slot_43 ⟨by rw [e_6]; subst_vars; exact ofS_T0, by subst_vars; rfl⟩

set_option maxHeartbeats 4000000 in
set_option maxRecDepth 100000 in
theorem c_X9_door_1 {l : Launch} {D : va_G} {cy : Nat → ClassId} {ad : Ads} (hI : IJ ad) (x : Mem) (p0 p1 : Int32) (h0 : inM p0 0 2 = 0) : Cti l yX9_door cX9_door 3 (some .int) rm_X9_door D cy ad [.ref (ad 15 14 0), .int p0, .int p1] x (fun r y => r = 0 ∧ y = TF x 1) := by
  refine rm_entry (Qc := Qi D cy ad (fun r y => r = 0 ∧ y = TF x 1)) hI (by decide) (Nat.le_of_ble_eq_true rfl) ?_
  intro p e s m args below meth c hc
  show RM _ _ _ _ _ _ _ _ _ _ _ _ _ _ _ _ _ [(0, .ref (ad 15 14 0)), (1, .int p0), (2, .int p1)] []
  refine rm_aload_n hc dX9_door_0 rfl rfl ?_
  refine rm_iconst (v := 0) hc dX9_door_1 (by decide) ?_
  refine rm_put hc dX9_door_2 fl_X9_25 dm_14 rfl (Nat.le_of_ble_eq_true rfl) ft_9_6 rfl rfl so_14_6 (rm_nm (fun x_1 ex_1 => ?_))
  refine rm_iload_n hc dX9_door_5 rfl rfl ?_
  refine rm_calliS (As := [.int p0]) (rest := []) hc dX9_door_6 (c_X9_isDoor hI x_1 p0) ms_X9_33 (hn := rfl) (hst := rfl) (hw := Nat.le_of_ble_eq_true rfl) (hR := ⟨⟨rfl, rfl⟩, Nat.le_of_ble_eq_true rfl, Nat.le_of_ble_eq_true rfl⟩) (hnc := ⟨Nat.zero_le _, Nat.zero_le _⟩) (fun r_2 y_2 h_2 => ?_)
  obtain ⟨e_2, ey_2⟩ := h_2
  obtain rfl := ey_2.symm
  obtain rfl : r_2 = 0 := e_2.trans h0
  refine rm_if_ne (tgt := 18) hc dX9_door_9 (by decide) (fun h => absurd h (by decide)) (fun _ => ?_)
  refine rm_aload_n hc dX9_door_12 rfl rfl ?_
  refine rm_iconst (v := 1) hc dX9_door_13 (by decide) ?_
  refine rm_calliV (As := [.int 1]) (rest := []) hc dX9_door_14 (c_X9_fails hI x_1 1) mv_X9_44 dm_14 rfl rfl (hn := rfl) (hst := rfl) (hw := Nat.le_of_ble_eq_true rfl) (hR := ⟨⟨rfl, rfl⟩, Nat.le_of_ble_eq_true rfl, Nat.le_of_ble_eq_true rfl⟩) (hnc := ⟨Nat.zero_le _, Nat.zero_le _⟩) (fun r_4 y_4 h_4 => ?_)
  obtain ⟨e_4, ey_4⟩ := h_4
  exact rm_iret hc dX9_door_17 ⟨e_4, by subst_vars; rfl⟩

set_option maxHeartbeats 4000000 in
set_option maxRecDepth 100000 in
theorem c_X9_door_2 {l : Launch} {D : va_G} {cy : Nat → ClassId} {ad : Ads} (hI : IJ ad) (x : Mem) {d : Nat} (hd3 : d < 3) (p1 : Int32) (h0 : inM p1 0 7 = 0) : Cti l yX9_door cX9_door 3 (some .int) rm_X9_door D cy ad [.ref (ad 15 14 0), .int (nI (d)), .int p1] x (fun r y => r = 0 ∧ y = TF x 2) := by
  refine rm_entry (Qc := Qi D cy ad (fun r y => r = 0 ∧ y = TF x 2)) hI (by decide) (Nat.le_of_ble_eq_true rfl) ?_
  intro p e s m args below meth c hc
  show RM _ _ _ _ _ _ _ _ _ _ _ _ _ _ _ _ _ [(0, .ref (ad 15 14 0)), (1, .int (nI (d))), (2, .int p1)] []
  refine rm_aload_n hc dX9_door_0 rfl rfl ?_
  refine rm_iconst (v := 0) hc dX9_door_1 (by decide) ?_
  refine rm_put hc dX9_door_2 fl_X9_25 dm_14 rfl (Nat.le_of_ble_eq_true rfl) ft_9_6 rfl rfl so_14_6 (rm_nm (fun x_1 ex_1 => ?_))
  refine rm_iload_n hc dX9_door_5 rfl rfl ?_
  refine rm_calliS (As := [.int (nI (d))]) (rest := []) hc dX9_door_6 (c_X9_isDoor hI x_1 (nI (d))) ms_X9_33 (hn := rfl) (hst := rfl) (hw := Nat.le_of_ble_eq_true rfl) (hR := ⟨⟨rfl, rfl⟩, Nat.le_of_ble_eq_true rfl, Nat.le_of_ble_eq_true rfl⟩) (hnc := ⟨Nat.zero_le _, Nat.zero_le _⟩) (fun r_2 y_2 h_2 => ?_)
  obtain ⟨e_2, ey_2⟩ := h_2
  obtain rfl := ey_2.symm
  obtain rfl : r_2 = 1 := e_2.trans (inN (n := 2) rfl (by omega) (by omega))
  refine rm_if_ne (tgt := 18) hc dX9_door_9 (by decide) (fun _ => ?_) (fun h => absurd h (by decide))
  refine rm_iload_n hc dX9_door_18 rfl rfl ?_
  refine rm_iconst (v := 0) hc dX9_door_19 (by decide) ?_
  refine rm_bipush (v := 7) hc dX9_door_20 (by decide) ?_
  refine rm_calliS (As := [.int p1, .int 0, .int 7]) (rest := []) hc dX9_door_22 (c_X9_in hI x_1 p1 0 7) ms_X9_29 (hn := rfl) (hst := rfl) (hw := Nat.le_of_ble_eq_true rfl) (hR := ⟨⟨rfl, rfl⟩, Nat.le_of_ble_eq_true rfl, Nat.le_of_ble_eq_true rfl⟩) (hnc := ⟨Nat.zero_le _, Nat.zero_le _⟩) (fun r_4 y_4 h_4 => ?_)
  obtain ⟨e_4, ey_4⟩ := h_4
  obtain rfl := ey_4.symm
  obtain rfl : r_4 = 0 := e_4.trans h0
  refine rm_if_eq (tgt := 37) hc dX9_door_25 (by decide) (fun _ => ?_) (fun h => absurd (by decide) h)
  refine rm_aload_n hc dX9_door_37 rfl rfl ?_
  refine rm_iconst (v := 2) hc dX9_door_38 (by decide) ?_
  refine rm_calliV (As := [.int 2]) (rest := []) hc dX9_door_39 (c_X9_fails hI x_1 2) mv_X9_44 dm_14 rfl rfl (hn := rfl) (hst := rfl) (hw := Nat.le_of_ble_eq_true rfl) (hR := ⟨⟨rfl, rfl⟩, Nat.le_of_ble_eq_true rfl, Nat.le_of_ble_eq_true rfl⟩) (hnc := ⟨Nat.zero_le _, Nat.zero_le _⟩) (fun r_6 y_6 h_6 => ?_)
  obtain ⟨e_6, ey_6⟩ := h_6
  exact rm_iret hc dX9_door_42 ⟨e_6, by subst_vars; rfl⟩

set_option maxHeartbeats 4000000 in
set_option maxRecDepth 100000 in
theorem c_X9_door_o0 {l : Launch} {D : va_G} {cy : Nat → ClassId} {ad : Ads} (hI : IJ ad) (x : Mem) {d : Nat} (hd3 : d < 3) : Cti l yX9_door cX9_door 3 (some .int) rm_X9_door D cy ad [.ref (ad 15 14 0), .int (nI (d)), .int 0] x (fun r y => r = ofD x d 0 ∧ y = T0 x) := by
  refine rm_entry (Qc := Qi D cy ad (fun r y => r = ofD x d 0 ∧ y = T0 x)) hI (by decide) (Nat.le_of_ble_eq_true rfl) ?_
  intro p e s m args below meth c hc
  show RM _ _ _ _ _ _ _ _ _ _ _ _ _ _ _ _ _ [(0, .ref (ad 15 14 0)), (1, .int (nI (d))), (2, .int 0)] []
  refine rm_aload_n hc dX9_door_0 rfl rfl ?_
  refine rm_iconst (v := 0) hc dX9_door_1 (by decide) ?_
  refine rm_put hc dX9_door_2 fl_X9_25 dm_14 rfl (Nat.le_of_ble_eq_true rfl) ft_9_6 rfl rfl so_14_6 (rm_nm (fun x_1 ex_1 => ?_))
  refine rm_iload_n hc dX9_door_5 rfl rfl ?_
  refine rm_calliS (As := [.int (nI (d))]) (rest := []) hc dX9_door_6 (c_X9_isDoor hI x_1 (nI (d))) ms_X9_33 (hn := rfl) (hst := rfl) (hw := Nat.le_of_ble_eq_true rfl) (hR := ⟨⟨rfl, rfl⟩, Nat.le_of_ble_eq_true rfl, Nat.le_of_ble_eq_true rfl⟩) (hnc := ⟨Nat.zero_le _, Nat.zero_le _⟩) (fun r_2 y_2 h_2 => ?_)
  obtain ⟨e_2, ey_2⟩ := h_2
  obtain rfl := ey_2.symm
  obtain rfl : r_2 = 1 := e_2.trans (inN (n := 2) rfl (by omega) (by omega))
  refine rm_if_ne (tgt := 18) hc dX9_door_9 (by decide) (fun _ => ?_) (fun h => absurd h (by decide))
  refine rm_iload_n hc dX9_door_18 rfl rfl ?_
  refine rm_iconst (v := 0) hc dX9_door_19 (by decide) ?_
  refine rm_bipush (v := 7) hc dX9_door_20 (by decide) ?_
  refine rm_calliS (As := [.int 0, .int 0, .int 7]) (rest := []) hc dX9_door_22 (c_X9_in hI x_1 0 0 7) ms_X9_29 (hn := rfl) (hst := rfl) (hw := Nat.le_of_ble_eq_true rfl) (hR := ⟨⟨rfl, rfl⟩, Nat.le_of_ble_eq_true rfl, Nat.le_of_ble_eq_true rfl⟩) (hnc := ⟨Nat.zero_le _, Nat.zero_le _⟩) (fun r_4 y_4 h_4 => ?_)
  obtain ⟨e_4, ey_4⟩ := h_4
  obtain rfl := ey_4.symm
  obtain rfl : r_4 = 1 := e_4.trans (by decide)
  refine rm_if_eq (tgt := 37) hc dX9_door_25 (by decide) (fun h => absurd h (by decide)) (fun _ => ?_)
  refine rm_aload_n hc dX9_door_28 rfl rfl ?_
  refine rm_iload_n hc dX9_door_29 rfl rfl ?_
  refine rm_iload_n hc dX9_door_30 rfl rfl ?_
  refine rm_calliV (As := [.int (nI (d)), .int 0]) (rest := []) hc dX9_door_31 (c_X9_ofDoor hI x_1 (d := d) (by omega)) mv_X9_156 dm_14 rfl rfl (hn := rfl) (hst := rfl) (hw := Nat.le_of_ble_eq_true rfl) (hR := ⟨⟨rfl, rfl⟩, Nat.le_of_ble_eq_true rfl, Nat.le_of_ble_eq_true rfl⟩) (hnc := ⟨Nat.zero_le _, Nat.zero_le _⟩) (fun r_6 y_6 h_6 => ?_)
  obtain ⟨e_6, ey_6⟩ := h_6
  obtain rfl := ey_6.symm
  refine rm_goto (tgt := 42) hc dX9_door_34 (by decide) ?_
  exact rm_iret hc dX9_door_42 ⟨by rw [e_6]; subst_vars; exact ofD_T0, by subst_vars; rfl⟩

set_option maxHeartbeats 4000000 in
set_option maxRecDepth 100000 in
theorem c_X9_door_o1 {l : Launch} {D : va_G} {cy : Nat → ClassId} {ad : Ads} (hI : IJ ad) (x : Mem) {d : Nat} (hd3 : d < 3) : Cti l yX9_door cX9_door 3 (some .int) rm_X9_door D cy ad [.ref (ad 15 14 0), .int (nI (d)), .int 1] x (fun r y => r = ofD x d 1 ∧ y = T0 x) := by
  refine rm_entry (Qc := Qi D cy ad (fun r y => r = ofD x d 1 ∧ y = T0 x)) hI (by decide) (Nat.le_of_ble_eq_true rfl) ?_
  intro p e s m args below meth c hc
  show RM _ _ _ _ _ _ _ _ _ _ _ _ _ _ _ _ _ [(0, .ref (ad 15 14 0)), (1, .int (nI (d))), (2, .int 1)] []
  refine rm_aload_n hc dX9_door_0 rfl rfl ?_
  refine rm_iconst (v := 0) hc dX9_door_1 (by decide) ?_
  refine rm_put hc dX9_door_2 fl_X9_25 dm_14 rfl (Nat.le_of_ble_eq_true rfl) ft_9_6 rfl rfl so_14_6 (rm_nm (fun x_1 ex_1 => ?_))
  refine rm_iload_n hc dX9_door_5 rfl rfl ?_
  refine rm_calliS (As := [.int (nI (d))]) (rest := []) hc dX9_door_6 (c_X9_isDoor hI x_1 (nI (d))) ms_X9_33 (hn := rfl) (hst := rfl) (hw := Nat.le_of_ble_eq_true rfl) (hR := ⟨⟨rfl, rfl⟩, Nat.le_of_ble_eq_true rfl, Nat.le_of_ble_eq_true rfl⟩) (hnc := ⟨Nat.zero_le _, Nat.zero_le _⟩) (fun r_2 y_2 h_2 => ?_)
  obtain ⟨e_2, ey_2⟩ := h_2
  obtain rfl := ey_2.symm
  obtain rfl : r_2 = 1 := e_2.trans (inN (n := 2) rfl (by omega) (by omega))
  refine rm_if_ne (tgt := 18) hc dX9_door_9 (by decide) (fun _ => ?_) (fun h => absurd h (by decide))
  refine rm_iload_n hc dX9_door_18 rfl rfl ?_
  refine rm_iconst (v := 0) hc dX9_door_19 (by decide) ?_
  refine rm_bipush (v := 7) hc dX9_door_20 (by decide) ?_
  refine rm_calliS (As := [.int 1, .int 0, .int 7]) (rest := []) hc dX9_door_22 (c_X9_in hI x_1 1 0 7) ms_X9_29 (hn := rfl) (hst := rfl) (hw := Nat.le_of_ble_eq_true rfl) (hR := ⟨⟨rfl, rfl⟩, Nat.le_of_ble_eq_true rfl, Nat.le_of_ble_eq_true rfl⟩) (hnc := ⟨Nat.zero_le _, Nat.zero_le _⟩) (fun r_4 y_4 h_4 => ?_)
  obtain ⟨e_4, ey_4⟩ := h_4
  obtain rfl := ey_4.symm
  obtain rfl : r_4 = 1 := e_4.trans (by decide)
  refine rm_if_eq (tgt := 37) hc dX9_door_25 (by decide) (fun h => absurd h (by decide)) (fun _ => ?_)
  refine rm_aload_n hc dX9_door_28 rfl rfl ?_
  refine rm_iload_n hc dX9_door_29 rfl rfl ?_
  refine rm_iload_n hc dX9_door_30 rfl rfl ?_
  refine rm_calliV (As := [.int (nI (d)), .int 1]) (rest := []) hc dX9_door_31 (c_X9_ofDoor_1 hI x_1 (d := d) (by omega)) mv_X9_156 dm_14 rfl rfl (hn := rfl) (hst := rfl) (hw := Nat.le_of_ble_eq_true rfl) (hR := ⟨⟨rfl, rfl⟩, Nat.le_of_ble_eq_true rfl, Nat.le_of_ble_eq_true rfl⟩) (hnc := ⟨Nat.zero_le _, Nat.zero_le _⟩) (fun r_6 y_6 h_6 => ?_)
  obtain ⟨e_6, ey_6⟩ := h_6
  obtain rfl := ey_6.symm
  refine rm_goto (tgt := 42) hc dX9_door_34 (by decide) ?_
  exact rm_iret hc dX9_door_42 ⟨by rw [e_6]; subst_vars; exact ofD_T0, by subst_vars; rfl⟩

set_option maxHeartbeats 4000000 in
set_option maxRecDepth 100000 in
theorem c_X9_door_o2 {l : Launch} {D : va_G} {cy : Nat → ClassId} {ad : Ads} (hI : IJ ad) (x : Mem) {d : Nat} (hd3 : d < 3) : Cti l yX9_door cX9_door 3 (some .int) rm_X9_door D cy ad [.ref (ad 15 14 0), .int (nI (d)), .int 2] x (fun r y => r = ofD x d 2 ∧ y = T0 x) := by
  refine rm_entry (Qc := Qi D cy ad (fun r y => r = ofD x d 2 ∧ y = T0 x)) hI (by decide) (Nat.le_of_ble_eq_true rfl) ?_
  intro p e s m args below meth c hc
  show RM _ _ _ _ _ _ _ _ _ _ _ _ _ _ _ _ _ [(0, .ref (ad 15 14 0)), (1, .int (nI (d))), (2, .int 2)] []
  refine rm_aload_n hc dX9_door_0 rfl rfl ?_
  refine rm_iconst (v := 0) hc dX9_door_1 (by decide) ?_
  refine rm_put hc dX9_door_2 fl_X9_25 dm_14 rfl (Nat.le_of_ble_eq_true rfl) ft_9_6 rfl rfl so_14_6 (rm_nm (fun x_1 ex_1 => ?_))
  refine rm_iload_n hc dX9_door_5 rfl rfl ?_
  refine rm_calliS (As := [.int (nI (d))]) (rest := []) hc dX9_door_6 (c_X9_isDoor hI x_1 (nI (d))) ms_X9_33 (hn := rfl) (hst := rfl) (hw := Nat.le_of_ble_eq_true rfl) (hR := ⟨⟨rfl, rfl⟩, Nat.le_of_ble_eq_true rfl, Nat.le_of_ble_eq_true rfl⟩) (hnc := ⟨Nat.zero_le _, Nat.zero_le _⟩) (fun r_2 y_2 h_2 => ?_)
  obtain ⟨e_2, ey_2⟩ := h_2
  obtain rfl := ey_2.symm
  obtain rfl : r_2 = 1 := e_2.trans (inN (n := 2) rfl (by omega) (by omega))
  refine rm_if_ne (tgt := 18) hc dX9_door_9 (by decide) (fun _ => ?_) (fun h => absurd h (by decide))
  refine rm_iload_n hc dX9_door_18 rfl rfl ?_
  refine rm_iconst (v := 0) hc dX9_door_19 (by decide) ?_
  refine rm_bipush (v := 7) hc dX9_door_20 (by decide) ?_
  refine rm_calliS (As := [.int 2, .int 0, .int 7]) (rest := []) hc dX9_door_22 (c_X9_in hI x_1 2 0 7) ms_X9_29 (hn := rfl) (hst := rfl) (hw := Nat.le_of_ble_eq_true rfl) (hR := ⟨⟨rfl, rfl⟩, Nat.le_of_ble_eq_true rfl, Nat.le_of_ble_eq_true rfl⟩) (hnc := ⟨Nat.zero_le _, Nat.zero_le _⟩) (fun r_4 y_4 h_4 => ?_)
  obtain ⟨e_4, ey_4⟩ := h_4
  obtain rfl := ey_4.symm
  obtain rfl : r_4 = 1 := e_4.trans (by decide)
  refine rm_if_eq (tgt := 37) hc dX9_door_25 (by decide) (fun h => absurd h (by decide)) (fun _ => ?_)
  refine rm_aload_n hc dX9_door_28 rfl rfl ?_
  refine rm_iload_n hc dX9_door_29 rfl rfl ?_
  refine rm_iload_n hc dX9_door_30 rfl rfl ?_
  refine rm_calliV (As := [.int (nI (d)), .int 2]) (rest := []) hc dX9_door_31 (c_X9_ofDoor_2 hI x_1 (d := d) (by omega)) mv_X9_156 dm_14 rfl rfl (hn := rfl) (hst := rfl) (hw := Nat.le_of_ble_eq_true rfl) (hR := ⟨⟨rfl, rfl⟩, Nat.le_of_ble_eq_true rfl, Nat.le_of_ble_eq_true rfl⟩) (hnc := ⟨Nat.zero_le _, Nat.zero_le _⟩) (fun r_6 y_6 h_6 => ?_)
  obtain ⟨e_6, ey_6⟩ := h_6
  obtain rfl := ey_6.symm
  refine rm_goto (tgt := 42) hc dX9_door_34 (by decide) ?_
  exact rm_iret hc dX9_door_42 ⟨by rw [e_6]; subst_vars; exact ofD_T0, by subst_vars; rfl⟩

set_option maxHeartbeats 4000000 in
set_option maxRecDepth 100000 in
theorem c_X9_door_o3 {l : Launch} {D : va_G} {cy : Nat → ClassId} {ad : Ads} (hI : IJ ad) (x : Mem) {d : Nat} (hd3 : d < 3) : Cti l yX9_door cX9_door 3 (some .int) rm_X9_door D cy ad [.ref (ad 15 14 0), .int (nI (d)), .int 3] x (fun r y => r = ofD x d 3 ∧ y = T0 x) := by
  refine rm_entry (Qc := Qi D cy ad (fun r y => r = ofD x d 3 ∧ y = T0 x)) hI (by decide) (Nat.le_of_ble_eq_true rfl) ?_
  intro p e s m args below meth c hc
  show RM _ _ _ _ _ _ _ _ _ _ _ _ _ _ _ _ _ [(0, .ref (ad 15 14 0)), (1, .int (nI (d))), (2, .int 3)] []
  refine rm_aload_n hc dX9_door_0 rfl rfl ?_
  refine rm_iconst (v := 0) hc dX9_door_1 (by decide) ?_
  refine rm_put hc dX9_door_2 fl_X9_25 dm_14 rfl (Nat.le_of_ble_eq_true rfl) ft_9_6 rfl rfl so_14_6 (rm_nm (fun x_1 ex_1 => ?_))
  refine rm_iload_n hc dX9_door_5 rfl rfl ?_
  refine rm_calliS (As := [.int (nI (d))]) (rest := []) hc dX9_door_6 (c_X9_isDoor hI x_1 (nI (d))) ms_X9_33 (hn := rfl) (hst := rfl) (hw := Nat.le_of_ble_eq_true rfl) (hR := ⟨⟨rfl, rfl⟩, Nat.le_of_ble_eq_true rfl, Nat.le_of_ble_eq_true rfl⟩) (hnc := ⟨Nat.zero_le _, Nat.zero_le _⟩) (fun r_2 y_2 h_2 => ?_)
  obtain ⟨e_2, ey_2⟩ := h_2
  obtain rfl := ey_2.symm
  obtain rfl : r_2 = 1 := e_2.trans (inN (n := 2) rfl (by omega) (by omega))
  refine rm_if_ne (tgt := 18) hc dX9_door_9 (by decide) (fun _ => ?_) (fun h => absurd h (by decide))
  refine rm_iload_n hc dX9_door_18 rfl rfl ?_
  refine rm_iconst (v := 0) hc dX9_door_19 (by decide) ?_
  refine rm_bipush (v := 7) hc dX9_door_20 (by decide) ?_
  refine rm_calliS (As := [.int 3, .int 0, .int 7]) (rest := []) hc dX9_door_22 (c_X9_in hI x_1 3 0 7) ms_X9_29 (hn := rfl) (hst := rfl) (hw := Nat.le_of_ble_eq_true rfl) (hR := ⟨⟨rfl, rfl⟩, Nat.le_of_ble_eq_true rfl, Nat.le_of_ble_eq_true rfl⟩) (hnc := ⟨Nat.zero_le _, Nat.zero_le _⟩) (fun r_4 y_4 h_4 => ?_)
  obtain ⟨e_4, ey_4⟩ := h_4
  obtain rfl := ey_4.symm
  obtain rfl : r_4 = 1 := e_4.trans (by decide)
  refine rm_if_eq (tgt := 37) hc dX9_door_25 (by decide) (fun h => absurd h (by decide)) (fun _ => ?_)
  refine rm_aload_n hc dX9_door_28 rfl rfl ?_
  refine rm_iload_n hc dX9_door_29 rfl rfl ?_
  refine rm_iload_n hc dX9_door_30 rfl rfl ?_
  refine rm_calliV (As := [.int (nI (d)), .int 3]) (rest := []) hc dX9_door_31 (c_X9_ofDoor_3 hI x_1 (d := d) (by omega)) mv_X9_156 dm_14 rfl rfl (hn := rfl) (hst := rfl) (hw := Nat.le_of_ble_eq_true rfl) (hR := ⟨⟨rfl, rfl⟩, Nat.le_of_ble_eq_true rfl, Nat.le_of_ble_eq_true rfl⟩) (hnc := ⟨Nat.zero_le _, Nat.zero_le _⟩) (fun r_6 y_6 h_6 => ?_)
  obtain ⟨e_6, ey_6⟩ := h_6
  obtain rfl := ey_6.symm
  refine rm_goto (tgt := 42) hc dX9_door_34 (by decide) ?_
  exact rm_iret hc dX9_door_42 ⟨by rw [e_6]; subst_vars; exact ofD_T0, by subst_vars; rfl⟩

set_option maxHeartbeats 4000000 in
set_option maxRecDepth 100000 in
theorem c_X9_door_o4 {l : Launch} {D : va_G} {cy : Nat → ClassId} {ad : Ads} (hI : IJ ad) (x : Mem) {d : Nat} (hd3 : d < 3) : Cti l yX9_door cX9_door 3 (some .int) rm_X9_door D cy ad [.ref (ad 15 14 0), .int (nI (d)), .int 4] x (fun r y => r = ofD x d 4 ∧ y = T0 x) := by
  refine rm_entry (Qc := Qi D cy ad (fun r y => r = ofD x d 4 ∧ y = T0 x)) hI (by decide) (Nat.le_of_ble_eq_true rfl) ?_
  intro p e s m args below meth c hc
  show RM _ _ _ _ _ _ _ _ _ _ _ _ _ _ _ _ _ [(0, .ref (ad 15 14 0)), (1, .int (nI (d))), (2, .int 4)] []
  refine rm_aload_n hc dX9_door_0 rfl rfl ?_
  refine rm_iconst (v := 0) hc dX9_door_1 (by decide) ?_
  refine rm_put hc dX9_door_2 fl_X9_25 dm_14 rfl (Nat.le_of_ble_eq_true rfl) ft_9_6 rfl rfl so_14_6 (rm_nm (fun x_1 ex_1 => ?_))
  refine rm_iload_n hc dX9_door_5 rfl rfl ?_
  refine rm_calliS (As := [.int (nI (d))]) (rest := []) hc dX9_door_6 (c_X9_isDoor hI x_1 (nI (d))) ms_X9_33 (hn := rfl) (hst := rfl) (hw := Nat.le_of_ble_eq_true rfl) (hR := ⟨⟨rfl, rfl⟩, Nat.le_of_ble_eq_true rfl, Nat.le_of_ble_eq_true rfl⟩) (hnc := ⟨Nat.zero_le _, Nat.zero_le _⟩) (fun r_2 y_2 h_2 => ?_)
  obtain ⟨e_2, ey_2⟩ := h_2
  obtain rfl := ey_2.symm
  obtain rfl : r_2 = 1 := e_2.trans (inN (n := 2) rfl (by omega) (by omega))
  refine rm_if_ne (tgt := 18) hc dX9_door_9 (by decide) (fun _ => ?_) (fun h => absurd h (by decide))
  refine rm_iload_n hc dX9_door_18 rfl rfl ?_
  refine rm_iconst (v := 0) hc dX9_door_19 (by decide) ?_
  refine rm_bipush (v := 7) hc dX9_door_20 (by decide) ?_
  refine rm_calliS (As := [.int 4, .int 0, .int 7]) (rest := []) hc dX9_door_22 (c_X9_in hI x_1 4 0 7) ms_X9_29 (hn := rfl) (hst := rfl) (hw := Nat.le_of_ble_eq_true rfl) (hR := ⟨⟨rfl, rfl⟩, Nat.le_of_ble_eq_true rfl, Nat.le_of_ble_eq_true rfl⟩) (hnc := ⟨Nat.zero_le _, Nat.zero_le _⟩) (fun r_4 y_4 h_4 => ?_)
  obtain ⟨e_4, ey_4⟩ := h_4
  obtain rfl := ey_4.symm
  obtain rfl : r_4 = 1 := e_4.trans (by decide)
  refine rm_if_eq (tgt := 37) hc dX9_door_25 (by decide) (fun h => absurd h (by decide)) (fun _ => ?_)
  refine rm_aload_n hc dX9_door_28 rfl rfl ?_
  refine rm_iload_n hc dX9_door_29 rfl rfl ?_
  refine rm_iload_n hc dX9_door_30 rfl rfl ?_
  refine rm_calliV (As := [.int (nI (d)), .int 4]) (rest := []) hc dX9_door_31 (c_X9_ofDoor_4 hI x_1 (d := d) (by omega)) mv_X9_156 dm_14 rfl rfl (hn := rfl) (hst := rfl) (hw := Nat.le_of_ble_eq_true rfl) (hR := ⟨⟨rfl, rfl⟩, Nat.le_of_ble_eq_true rfl, Nat.le_of_ble_eq_true rfl⟩) (hnc := ⟨Nat.zero_le _, Nat.zero_le _⟩) (fun r_6 y_6 h_6 => ?_)
  obtain ⟨e_6, ey_6⟩ := h_6
  obtain rfl := ey_6.symm
  refine rm_goto (tgt := 42) hc dX9_door_34 (by decide) ?_
  exact rm_iret hc dX9_door_42 ⟨by rw [e_6]; subst_vars; exact ofD_T0, by subst_vars; rfl⟩

set_option maxHeartbeats 4000000 in
set_option maxRecDepth 100000 in
theorem c_X9_door_o5 {l : Launch} {D : va_G} {cy : Nat → ClassId} {ad : Ads} (hI : IJ ad) (x : Mem) {d : Nat} (hd3 : d < 3) : Cti l yX9_door cX9_door 3 (some .int) rm_X9_door D cy ad [.ref (ad 15 14 0), .int (nI (d)), .int 5] x (fun r y => r = ofD x d 5 ∧ y = T0 x) := by
  refine rm_entry (Qc := Qi D cy ad (fun r y => r = ofD x d 5 ∧ y = T0 x)) hI (by decide) (Nat.le_of_ble_eq_true rfl) ?_
  intro p e s m args below meth c hc
  show RM _ _ _ _ _ _ _ _ _ _ _ _ _ _ _ _ _ [(0, .ref (ad 15 14 0)), (1, .int (nI (d))), (2, .int 5)] []
  refine rm_aload_n hc dX9_door_0 rfl rfl ?_
  refine rm_iconst (v := 0) hc dX9_door_1 (by decide) ?_
  refine rm_put hc dX9_door_2 fl_X9_25 dm_14 rfl (Nat.le_of_ble_eq_true rfl) ft_9_6 rfl rfl so_14_6 (rm_nm (fun x_1 ex_1 => ?_))
  refine rm_iload_n hc dX9_door_5 rfl rfl ?_
  refine rm_calliS (As := [.int (nI (d))]) (rest := []) hc dX9_door_6 (c_X9_isDoor hI x_1 (nI (d))) ms_X9_33 (hn := rfl) (hst := rfl) (hw := Nat.le_of_ble_eq_true rfl) (hR := ⟨⟨rfl, rfl⟩, Nat.le_of_ble_eq_true rfl, Nat.le_of_ble_eq_true rfl⟩) (hnc := ⟨Nat.zero_le _, Nat.zero_le _⟩) (fun r_2 y_2 h_2 => ?_)
  obtain ⟨e_2, ey_2⟩ := h_2
  obtain rfl := ey_2.symm
  obtain rfl : r_2 = 1 := e_2.trans (inN (n := 2) rfl (by omega) (by omega))
  refine rm_if_ne (tgt := 18) hc dX9_door_9 (by decide) (fun _ => ?_) (fun h => absurd h (by decide))
  refine rm_iload_n hc dX9_door_18 rfl rfl ?_
  refine rm_iconst (v := 0) hc dX9_door_19 (by decide) ?_
  refine rm_bipush (v := 7) hc dX9_door_20 (by decide) ?_
  refine rm_calliS (As := [.int 5, .int 0, .int 7]) (rest := []) hc dX9_door_22 (c_X9_in hI x_1 5 0 7) ms_X9_29 (hn := rfl) (hst := rfl) (hw := Nat.le_of_ble_eq_true rfl) (hR := ⟨⟨rfl, rfl⟩, Nat.le_of_ble_eq_true rfl, Nat.le_of_ble_eq_true rfl⟩) (hnc := ⟨Nat.zero_le _, Nat.zero_le _⟩) (fun r_4 y_4 h_4 => ?_)
  obtain ⟨e_4, ey_4⟩ := h_4
  obtain rfl := ey_4.symm
  obtain rfl : r_4 = 1 := e_4.trans (by decide)
  refine rm_if_eq (tgt := 37) hc dX9_door_25 (by decide) (fun h => absurd h (by decide)) (fun _ => ?_)
  refine rm_aload_n hc dX9_door_28 rfl rfl ?_
  refine rm_iload_n hc dX9_door_29 rfl rfl ?_
  refine rm_iload_n hc dX9_door_30 rfl rfl ?_
  refine rm_calliV (As := [.int (nI (d)), .int 5]) (rest := []) hc dX9_door_31 (c_X9_ofDoor_5 hI x_1 (d := d) (by omega)) mv_X9_156 dm_14 rfl rfl (hn := rfl) (hst := rfl) (hw := Nat.le_of_ble_eq_true rfl) (hR := ⟨⟨rfl, rfl⟩, Nat.le_of_ble_eq_true rfl, Nat.le_of_ble_eq_true rfl⟩) (hnc := ⟨Nat.zero_le _, Nat.zero_le _⟩) (fun r_6 y_6 h_6 => ?_)
  obtain ⟨e_6, ey_6⟩ := h_6
  obtain rfl := ey_6.symm
  refine rm_goto (tgt := 42) hc dX9_door_34 (by decide) ?_
  exact rm_iret hc dX9_door_42 ⟨by rw [e_6]; subst_vars; exact ofD_T0, by subst_vars; rfl⟩

set_option maxHeartbeats 4000000 in
set_option maxRecDepth 100000 in
theorem c_X9_door_o6 {l : Launch} {D : va_G} {cy : Nat → ClassId} {ad : Ads} (hI : IJ ad) (x : Mem) {d : Nat} (hd3 : d < 3) : Cti l yX9_door cX9_door 3 (some .int) rm_X9_door D cy ad [.ref (ad 15 14 0), .int (nI (d)), .int 6] x (fun r y => r = ofD x d 6 ∧ y = T0 x) := by
  refine rm_entry (Qc := Qi D cy ad (fun r y => r = ofD x d 6 ∧ y = T0 x)) hI (by decide) (Nat.le_of_ble_eq_true rfl) ?_
  intro p e s m args below meth c hc
  show RM _ _ _ _ _ _ _ _ _ _ _ _ _ _ _ _ _ [(0, .ref (ad 15 14 0)), (1, .int (nI (d))), (2, .int 6)] []
  refine rm_aload_n hc dX9_door_0 rfl rfl ?_
  refine rm_iconst (v := 0) hc dX9_door_1 (by decide) ?_
  refine rm_put hc dX9_door_2 fl_X9_25 dm_14 rfl (Nat.le_of_ble_eq_true rfl) ft_9_6 rfl rfl so_14_6 (rm_nm (fun x_1 ex_1 => ?_))
  refine rm_iload_n hc dX9_door_5 rfl rfl ?_
  refine rm_calliS (As := [.int (nI (d))]) (rest := []) hc dX9_door_6 (c_X9_isDoor hI x_1 (nI (d))) ms_X9_33 (hn := rfl) (hst := rfl) (hw := Nat.le_of_ble_eq_true rfl) (hR := ⟨⟨rfl, rfl⟩, Nat.le_of_ble_eq_true rfl, Nat.le_of_ble_eq_true rfl⟩) (hnc := ⟨Nat.zero_le _, Nat.zero_le _⟩) (fun r_2 y_2 h_2 => ?_)
  obtain ⟨e_2, ey_2⟩ := h_2
  obtain rfl := ey_2.symm
  obtain rfl : r_2 = 1 := e_2.trans (inN (n := 2) rfl (by omega) (by omega))
  refine rm_if_ne (tgt := 18) hc dX9_door_9 (by decide) (fun _ => ?_) (fun h => absurd h (by decide))
  refine rm_iload_n hc dX9_door_18 rfl rfl ?_
  refine rm_iconst (v := 0) hc dX9_door_19 (by decide) ?_
  refine rm_bipush (v := 7) hc dX9_door_20 (by decide) ?_
  refine rm_calliS (As := [.int 6, .int 0, .int 7]) (rest := []) hc dX9_door_22 (c_X9_in hI x_1 6 0 7) ms_X9_29 (hn := rfl) (hst := rfl) (hw := Nat.le_of_ble_eq_true rfl) (hR := ⟨⟨rfl, rfl⟩, Nat.le_of_ble_eq_true rfl, Nat.le_of_ble_eq_true rfl⟩) (hnc := ⟨Nat.zero_le _, Nat.zero_le _⟩) (fun r_4 y_4 h_4 => ?_)
  obtain ⟨e_4, ey_4⟩ := h_4
  obtain rfl := ey_4.symm
  obtain rfl : r_4 = 1 := e_4.trans (by decide)
  refine rm_if_eq (tgt := 37) hc dX9_door_25 (by decide) (fun h => absurd h (by decide)) (fun _ => ?_)
  refine rm_aload_n hc dX9_door_28 rfl rfl ?_
  refine rm_iload_n hc dX9_door_29 rfl rfl ?_
  refine rm_iload_n hc dX9_door_30 rfl rfl ?_
  refine rm_calliV (As := [.int (nI (d)), .int 6]) (rest := []) hc dX9_door_31 (c_X9_ofDoor_6 hI x_1 (d := d) (by omega)) mv_X9_156 dm_14 rfl rfl (hn := rfl) (hst := rfl) (hw := Nat.le_of_ble_eq_true rfl) (hR := ⟨⟨rfl, rfl⟩, Nat.le_of_ble_eq_true rfl, Nat.le_of_ble_eq_true rfl⟩) (hnc := ⟨Nat.zero_le _, Nat.zero_le _⟩) (fun r_6 y_6 h_6 => ?_)
  obtain ⟨e_6, ey_6⟩ := h_6
  obtain rfl := ey_6.symm
  refine rm_goto (tgt := 42) hc dX9_door_34 (by decide) ?_
  exact rm_iret hc dX9_door_42 ⟨by rw [e_6]; subst_vars; exact ofD_T0, by subst_vars; rfl⟩

set_option maxHeartbeats 4000000 in
set_option maxRecDepth 100000 in
theorem c_X9_door_o7 {l : Launch} {D : va_G} {cy : Nat → ClassId} {ad : Ads} (hI : IJ ad) (x : Mem) {d : Nat} (hd3 : d < 3) : Cti l yX9_door cX9_door 3 (some .int) rm_X9_door D cy ad [.ref (ad 15 14 0), .int (nI (d)), .int 7] x (fun r y => r = ofD x d 7 ∧ y = T0 x) := by
  refine rm_entry (Qc := Qi D cy ad (fun r y => r = ofD x d 7 ∧ y = T0 x)) hI (by decide) (Nat.le_of_ble_eq_true rfl) ?_
  intro p e s m args below meth c hc
  show RM _ _ _ _ _ _ _ _ _ _ _ _ _ _ _ _ _ [(0, .ref (ad 15 14 0)), (1, .int (nI (d))), (2, .int 7)] []
  refine rm_aload_n hc dX9_door_0 rfl rfl ?_
  refine rm_iconst (v := 0) hc dX9_door_1 (by decide) ?_
  refine rm_put hc dX9_door_2 fl_X9_25 dm_14 rfl (Nat.le_of_ble_eq_true rfl) ft_9_6 rfl rfl so_14_6 (rm_nm (fun x_1 ex_1 => ?_))
  refine rm_iload_n hc dX9_door_5 rfl rfl ?_
  refine rm_calliS (As := [.int (nI (d))]) (rest := []) hc dX9_door_6 (c_X9_isDoor hI x_1 (nI (d))) ms_X9_33 (hn := rfl) (hst := rfl) (hw := Nat.le_of_ble_eq_true rfl) (hR := ⟨⟨rfl, rfl⟩, Nat.le_of_ble_eq_true rfl, Nat.le_of_ble_eq_true rfl⟩) (hnc := ⟨Nat.zero_le _, Nat.zero_le _⟩) (fun r_2 y_2 h_2 => ?_)
  obtain ⟨e_2, ey_2⟩ := h_2
  obtain rfl := ey_2.symm
  obtain rfl : r_2 = 1 := e_2.trans (inN (n := 2) rfl (by omega) (by omega))
  refine rm_if_ne (tgt := 18) hc dX9_door_9 (by decide) (fun _ => ?_) (fun h => absurd h (by decide))
  refine rm_iload_n hc dX9_door_18 rfl rfl ?_
  refine rm_iconst (v := 0) hc dX9_door_19 (by decide) ?_
  refine rm_bipush (v := 7) hc dX9_door_20 (by decide) ?_
  refine rm_calliS (As := [.int 7, .int 0, .int 7]) (rest := []) hc dX9_door_22 (c_X9_in hI x_1 7 0 7) ms_X9_29 (hn := rfl) (hst := rfl) (hw := Nat.le_of_ble_eq_true rfl) (hR := ⟨⟨rfl, rfl⟩, Nat.le_of_ble_eq_true rfl, Nat.le_of_ble_eq_true rfl⟩) (hnc := ⟨Nat.zero_le _, Nat.zero_le _⟩) (fun r_4 y_4 h_4 => ?_)
  obtain ⟨e_4, ey_4⟩ := h_4
  obtain rfl := ey_4.symm
  obtain rfl : r_4 = 1 := e_4.trans (by decide)
  refine rm_if_eq (tgt := 37) hc dX9_door_25 (by decide) (fun h => absurd h (by decide)) (fun _ => ?_)
  refine rm_aload_n hc dX9_door_28 rfl rfl ?_
  refine rm_iload_n hc dX9_door_29 rfl rfl ?_
  refine rm_iload_n hc dX9_door_30 rfl rfl ?_
  refine rm_calliV (As := [.int (nI (d)), .int 7]) (rest := []) hc dX9_door_31 (c_X9_ofDoor_7 hI x_1 (d := d) (by omega)) mv_X9_156 dm_14 rfl rfl (hn := rfl) (hst := rfl) (hw := Nat.le_of_ble_eq_true rfl) (hR := ⟨⟨rfl, rfl⟩, Nat.le_of_ble_eq_true rfl, Nat.le_of_ble_eq_true rfl⟩) (hnc := ⟨Nat.zero_le _, Nat.zero_le _⟩) (fun r_6 y_6 h_6 => ?_)
  obtain ⟨e_6, ey_6⟩ := h_6
  obtain rfl := ey_6.symm
  refine rm_goto (tgt := 42) hc dX9_door_34 (by decide) ?_
  exact rm_iret hc dX9_door_42 ⟨by rw [e_6]; subst_vars; exact ofD_T0, by subst_vars; rfl⟩

set_option maxHeartbeats 4000000 in
set_option maxRecDepth 100000 in
theorem c_X9_air_1 {l : Launch} {D : va_G} {cy : Nat → ClassId} {ad : Ads} (hI : IJ ad) (x : Mem) (p0 : Int32) (h0 : p0 < 0) : Cti l yX9_air cX9_air 2 (some .int) rm_X9_air D cy ad [.ref (ad 15 14 0), .int p0] x (fun r y => r = 0 ∧ y = TF x 1) := by
  refine rm_entry (Qc := Qi D cy ad (fun r y => r = 0 ∧ y = TF x 1)) hI (by decide) (Nat.le_of_ble_eq_true rfl) ?_
  intro p e s m args below meth c hc
  show RM _ _ _ _ _ _ _ _ _ _ _ _ _ _ _ _ _ [(0, .ref (ad 15 14 0)), (1, .int p0)] []
  refine rm_aload_n hc dX9_air_0 rfl rfl ?_
  refine rm_iconst (v := 0) hc dX9_air_1 (by decide) ?_
  refine rm_put hc dX9_air_2 fl_X9_25 dm_14 rfl (Nat.le_of_ble_eq_true rfl) ft_9_6 rfl rfl so_14_6 (rm_nm (fun x_1 ex_1 => ?_))
  refine rm_iload_n hc dX9_air_5 rfl rfl ?_
  refine rm_if_ge (tgt := 15) hc dX9_air_6 (by decide) (fun h => absurd h (show ¬ 0 ≤ p0 from fun h => absurd h0 (Int32.not_lt.mpr h))) (fun _ => ?_)
  refine rm_aload_n hc dX9_air_9 rfl rfl ?_
  refine rm_iconst (v := 1) hc dX9_air_10 (by decide) ?_
  refine rm_calliV (As := [.int 1]) (rest := []) hc dX9_air_11 (c_X9_fails hI x_1 1) mv_X9_44 dm_14 rfl rfl (hn := rfl) (hst := rfl) (hw := Nat.le_of_ble_eq_true rfl) (hR := ⟨⟨rfl, rfl⟩, Nat.le_of_ble_eq_true rfl, Nat.le_of_ble_eq_true rfl⟩) (hnc := ⟨Nat.zero_le _, Nat.zero_le _⟩) (fun r_3 y_3 h_3 => ?_)
  obtain ⟨e_3, ey_3⟩ := h_3
  exact rm_iret hc dX9_air_14 ⟨e_3, by subst_vars; rfl⟩

set_option maxHeartbeats 4000000 in
set_option maxRecDepth 100000 in
theorem c_X9_air_o {l : Launch} {D : va_G} {cy : Nat → ClassId} {ad : Ads} (hI : IJ ad) (x : Mem) {ii nr : Nat} (hnr : x 10 5 = nI nr) (hr8 : nr ≤ 8) (hi : ii < 2 ^ 31) : Cti l yX9_air cX9_air 2 (some .int) rm_X9_air D cy ad [.ref (ad 15 14 0), .int (nI (ii))] x (fun r y => r = (if ii < nr then x 10 (6 + ii) else -1) ∧ y = T0 x) := by
  refine rm_entry (Qc := Qi D cy ad (fun r y => r = (if ii < nr then x 10 (6 + ii) else -1) ∧ y = T0 x)) hI (by decide) (Nat.le_of_ble_eq_true rfl) ?_
  intro p e s m args below meth c hc
  show RM _ _ _ _ _ _ _ _ _ _ _ _ _ _ _ _ _ [(0, .ref (ad 15 14 0)), (1, .int (nI (ii)))] []
  refine rm_aload_n hc dX9_air_0 rfl rfl ?_
  refine rm_iconst (v := 0) hc dX9_air_1 (by decide) ?_
  refine rm_put hc dX9_air_2 fl_X9_25 dm_14 rfl (Nat.le_of_ble_eq_true rfl) ft_9_6 rfl rfl so_14_6 (rm_nm (fun x_1 ex_1 => ?_))
  refine rm_iload_n hc dX9_air_5 rfl rfl ?_
  refine rm_if_ge (tgt := 15) hc dX9_air_6 (by decide) (fun _ => ?_) (fun h => absurd ((nI_leI (a := 0) (b := ii) (by omega) (by omega)).mpr (by omega)) h)
  refine rm_iload_n hc dX9_air_15 rfl rfl ?_
  refine rm_aload_n hc dX9_air_16 rfl rfl ?_
  refine rm_get hc dX9_air_17 fl_X9_7 dm_14 rfl rfl ?_
  refine rm_iconst (v := 5) hc dX9_air_20 (by decide) ?_
  refine rm_iald (i := 5) hc dX9_air_21 (dm_15 (by omega)) rfl (by omega) (by decide) rfl (fun v_3 e_3 => ?_)
  obtain rfl : v_3 = nI nr := e_3.trans (by subst_vars; exact (congrFun T0_10 _).trans hnr)
  rcases Nat.lt_or_ge ii nr with z_4 | z_4
  · --
    refine rm_icmp_ge (tgt := 37) hc dX9_air_22 (by decide) (fun h => absurd h (fun h2 => absurd ((nI_leI (a := nr) (b := ii) (by omega) (by omega)).mp h2) (by omega))) (fun _ => ?_)
    refine rm_aload_n hc dX9_air_25 rfl rfl ?_
    refine rm_get hc dX9_air_26 fl_X9_7 dm_14 rfl rfl ?_
    refine rm_bipush (v := 6) hc dX9_air_29 (by decide) ?_
    refine rm_iload_n hc dX9_air_31 rfl rfl ?_
    refine rm_iadd hc dX9_air_32 (fun v_5 e_5 => ?_)
    obtain rfl : v_5 = (nI (ii + 6)) := e_5.trans (nadd (m := 6) (n := ii) (by omega))
    clear e_5
    refine rm_iald (i := ii + 6) hc dX9_air_33 (dm_15 (by omega)) rfl (by omega) (by decide) rfl (fun v_6 e_6 => ?_)
    refine rm_goto (tgt := 38) hc dX9_air_34 (by decide) ?_
    exact rm_iret hc dX9_air_38 ⟨by rw [if_pos (by omega), e_6]; subst_vars; rw [Nat.add_comm]; exact congrFun T0_10 _, by subst_vars; rfl⟩
  · --
    refine rm_icmp_ge (tgt := 37) hc dX9_air_22 (by decide) (fun _ => ?_) (fun h => absurd ((nI_leI (a := nr) (b := ii) (by omega) (by omega)).mpr (by omega)) h)
    refine rm_iconst (v := -1) hc dX9_air_37 (by decide) ?_
    exact rm_iret hc dX9_air_38 ⟨by rw [if_neg (by omega)], by subst_vars; rfl⟩

set_option maxHeartbeats 4000000 in
set_option maxRecDepth 100000 in
theorem c_X9_count_1 {l : Launch} {D : va_G} {cy : Nat → ClassId} {ad : Ads} (hI : IJ ad) (x : Mem) (p0 : Int32) (h0 : inM p0 0 7 = 0) : Cti l yX9_count cX9_count 2 (some .int) rm_X9_count D cy ad [.ref (ad 15 14 0), .int p0] x (fun r y => r = 0 ∧ y = TF x 1) := by
  refine rm_entry (Qc := Qi D cy ad (fun r y => r = 0 ∧ y = TF x 1)) hI (by decide) (Nat.le_of_ble_eq_true rfl) ?_
  intro p e s m args below meth c hc
  show RM _ _ _ _ _ _ _ _ _ _ _ _ _ _ _ _ _ [(0, .ref (ad 15 14 0)), (1, .int p0)] []
  refine rm_aload_n hc dX9_count_0 rfl rfl ?_
  refine rm_iconst (v := 0) hc dX9_count_1 (by decide) ?_
  refine rm_put hc dX9_count_2 fl_X9_25 dm_14 rfl (Nat.le_of_ble_eq_true rfl) ft_9_6 rfl rfl so_14_6 (rm_nm (fun x_1 ex_1 => ?_))
  refine rm_iload_n hc dX9_count_5 rfl rfl ?_
  refine rm_iconst (v := 0) hc dX9_count_6 (by decide) ?_
  refine rm_bipush (v := 7) hc dX9_count_7 (by decide) ?_
  refine rm_calliS (As := [.int p0, .int 0, .int 7]) (rest := []) hc dX9_count_9 (c_X9_in hI x_1 p0 0 7) ms_X9_29 (hn := rfl) (hst := rfl) (hw := Nat.le_of_ble_eq_true rfl) (hR := ⟨⟨rfl, rfl⟩, Nat.le_of_ble_eq_true rfl, Nat.le_of_ble_eq_true rfl⟩) (hnc := ⟨Nat.zero_le _, Nat.zero_le _⟩) (fun r_2 y_2 h_2 => ?_)
  obtain ⟨e_2, ey_2⟩ := h_2
  obtain rfl := ey_2.symm
  obtain rfl : r_2 = 0 := e_2.trans h0
  refine rm_if_eq (tgt := 23) hc dX9_count_12 (by decide) (fun _ => ?_) (fun h => absurd (by decide) h)
  refine rm_aload_n hc dX9_count_23 rfl rfl ?_
  refine rm_iconst (v := 1) hc dX9_count_24 (by decide) ?_
  refine rm_calliV (As := [.int 1]) (rest := []) hc dX9_count_25 (c_X9_fails hI x_1 1) mv_X9_44 dm_14 rfl rfl (hn := rfl) (hst := rfl) (hw := Nat.le_of_ble_eq_true rfl) (hR := ⟨⟨rfl, rfl⟩, Nat.le_of_ble_eq_true rfl, Nat.le_of_ble_eq_true rfl⟩) (hnc := ⟨Nat.zero_le _, Nat.zero_le _⟩) (fun r_4 y_4 h_4 => ?_)
  obtain ⟨e_4, ey_4⟩ := h_4
  exact rm_iret hc dX9_count_28 ⟨e_4, by subst_vars; rfl⟩

set_option maxHeartbeats 4000000 in
set_option maxRecDepth 100000 in
theorem c_X9_count_o0 {l : Launch} {D : va_G} {cy : Nat → ClassId} {ad : Ads} (hI : IJ ad) (x : Mem)  : Cti l yX9_count cX9_count 2 (some .int) rm_X9_count D cy ad [.ref (ad 15 14 0), .int 0] x (fun r y => r = cntM x 0 ∧ y = T0 x) := by
  refine rm_entry (Qc := Qi D cy ad (fun r y => r = cntM x 0 ∧ y = T0 x)) hI (by decide) (Nat.le_of_ble_eq_true rfl) ?_
  intro p e s m args below meth c hc
  show RM _ _ _ _ _ _ _ _ _ _ _ _ _ _ _ _ _ [(0, .ref (ad 15 14 0)), (1, .int 0)] []
  refine rm_aload_n hc dX9_count_0 rfl rfl ?_
  refine rm_iconst (v := 0) hc dX9_count_1 (by decide) ?_
  refine rm_put hc dX9_count_2 fl_X9_25 dm_14 rfl (Nat.le_of_ble_eq_true rfl) ft_9_6 rfl rfl so_14_6 (rm_nm (fun x_1 ex_1 => ?_))
  refine rm_iload_n hc dX9_count_5 rfl rfl ?_
  refine rm_iconst (v := 0) hc dX9_count_6 (by decide) ?_
  refine rm_bipush (v := 7) hc dX9_count_7 (by decide) ?_
  refine rm_calliS (As := [.int 0, .int 0, .int 7]) (rest := []) hc dX9_count_9 (c_X9_in hI x_1 0 0 7) ms_X9_29 (hn := rfl) (hst := rfl) (hw := Nat.le_of_ble_eq_true rfl) (hR := ⟨⟨rfl, rfl⟩, Nat.le_of_ble_eq_true rfl, Nat.le_of_ble_eq_true rfl⟩) (hnc := ⟨Nat.zero_le _, Nat.zero_le _⟩) (fun r_2 y_2 h_2 => ?_)
  obtain ⟨e_2, ey_2⟩ := h_2
  obtain rfl := ey_2.symm
  obtain rfl : r_2 = 1 := e_2.trans (by decide)
  refine rm_if_eq (tgt := 23) hc dX9_count_12 (by decide) (fun h => absurd h (by decide)) (fun _ => ?_)
  refine rm_aload_n hc dX9_count_15 rfl rfl ?_
  refine rm_iload_n hc dX9_count_16 rfl rfl ?_
  refine rm_calliV (As := [.int 0]) (rest := []) hc dX9_count_17 (c_X9_counted hI x_1) mv_X9_162 dm_14 rfl rfl (hn := rfl) (hst := rfl) (hw := Nat.le_of_ble_eq_true rfl) (hR := ⟨⟨rfl, rfl⟩, Nat.le_of_ble_eq_true rfl, Nat.le_of_ble_eq_true rfl⟩) (hnc := ⟨Nat.zero_le _, Nat.zero_le _⟩) (fun r_4 y_4 h_4 => ?_)
  obtain ⟨e_4, ey_4⟩ := h_4
  obtain rfl := ey_4.symm
  refine rm_goto (tgt := 28) hc dX9_count_20 (by decide) ?_
  exact rm_iret hc dX9_count_28 ⟨by rw [e_4]; subst_vars; exact cntM_T0, by subst_vars; rfl⟩

set_option maxHeartbeats 4000000 in
set_option maxRecDepth 100000 in
theorem c_X9_count_o1 {l : Launch} {D : va_G} {cy : Nat → ClassId} {ad : Ads} (hI : IJ ad) (x : Mem)  : Cti l yX9_count cX9_count 2 (some .int) rm_X9_count D cy ad [.ref (ad 15 14 0), .int 1] x (fun r y => r = cntM x 1 ∧ y = T0 x) := by
  refine rm_entry (Qc := Qi D cy ad (fun r y => r = cntM x 1 ∧ y = T0 x)) hI (by decide) (Nat.le_of_ble_eq_true rfl) ?_
  intro p e s m args below meth c hc
  show RM _ _ _ _ _ _ _ _ _ _ _ _ _ _ _ _ _ [(0, .ref (ad 15 14 0)), (1, .int 1)] []
  refine rm_aload_n hc dX9_count_0 rfl rfl ?_
  refine rm_iconst (v := 0) hc dX9_count_1 (by decide) ?_
  refine rm_put hc dX9_count_2 fl_X9_25 dm_14 rfl (Nat.le_of_ble_eq_true rfl) ft_9_6 rfl rfl so_14_6 (rm_nm (fun x_1 ex_1 => ?_))
  refine rm_iload_n hc dX9_count_5 rfl rfl ?_
  refine rm_iconst (v := 0) hc dX9_count_6 (by decide) ?_
  refine rm_bipush (v := 7) hc dX9_count_7 (by decide) ?_
  refine rm_calliS (As := [.int 1, .int 0, .int 7]) (rest := []) hc dX9_count_9 (c_X9_in hI x_1 1 0 7) ms_X9_29 (hn := rfl) (hst := rfl) (hw := Nat.le_of_ble_eq_true rfl) (hR := ⟨⟨rfl, rfl⟩, Nat.le_of_ble_eq_true rfl, Nat.le_of_ble_eq_true rfl⟩) (hnc := ⟨Nat.zero_le _, Nat.zero_le _⟩) (fun r_2 y_2 h_2 => ?_)
  obtain ⟨e_2, ey_2⟩ := h_2
  obtain rfl := ey_2.symm
  obtain rfl : r_2 = 1 := e_2.trans (by decide)
  refine rm_if_eq (tgt := 23) hc dX9_count_12 (by decide) (fun h => absurd h (by decide)) (fun _ => ?_)
  refine rm_aload_n hc dX9_count_15 rfl rfl ?_
  refine rm_iload_n hc dX9_count_16 rfl rfl ?_
  refine rm_calliV (As := [.int 1]) (rest := []) hc dX9_count_17 (c_X9_counted_1 hI x_1) mv_X9_162 dm_14 rfl rfl (hn := rfl) (hst := rfl) (hw := Nat.le_of_ble_eq_true rfl) (hR := ⟨⟨rfl, rfl⟩, Nat.le_of_ble_eq_true rfl, Nat.le_of_ble_eq_true rfl⟩) (hnc := ⟨Nat.zero_le _, Nat.zero_le _⟩) (fun r_4 y_4 h_4 => ?_)
  obtain ⟨e_4, ey_4⟩ := h_4
  obtain rfl := ey_4.symm
  refine rm_goto (tgt := 28) hc dX9_count_20 (by decide) ?_
  exact rm_iret hc dX9_count_28 ⟨by rw [e_4]; subst_vars; exact cntM_T0, by subst_vars; rfl⟩

set_option maxHeartbeats 4000000 in
set_option maxRecDepth 100000 in
theorem c_X9_count_o2 {l : Launch} {D : va_G} {cy : Nat → ClassId} {ad : Ads} (hI : IJ ad) (x : Mem)  : Cti l yX9_count cX9_count 2 (some .int) rm_X9_count D cy ad [.ref (ad 15 14 0), .int 2] x (fun r y => r = cntM x 2 ∧ y = T0 x) := by
  refine rm_entry (Qc := Qi D cy ad (fun r y => r = cntM x 2 ∧ y = T0 x)) hI (by decide) (Nat.le_of_ble_eq_true rfl) ?_
  intro p e s m args below meth c hc
  show RM _ _ _ _ _ _ _ _ _ _ _ _ _ _ _ _ _ [(0, .ref (ad 15 14 0)), (1, .int 2)] []
  refine rm_aload_n hc dX9_count_0 rfl rfl ?_
  refine rm_iconst (v := 0) hc dX9_count_1 (by decide) ?_
  refine rm_put hc dX9_count_2 fl_X9_25 dm_14 rfl (Nat.le_of_ble_eq_true rfl) ft_9_6 rfl rfl so_14_6 (rm_nm (fun x_1 ex_1 => ?_))
  refine rm_iload_n hc dX9_count_5 rfl rfl ?_
  refine rm_iconst (v := 0) hc dX9_count_6 (by decide) ?_
  refine rm_bipush (v := 7) hc dX9_count_7 (by decide) ?_
  refine rm_calliS (As := [.int 2, .int 0, .int 7]) (rest := []) hc dX9_count_9 (c_X9_in hI x_1 2 0 7) ms_X9_29 (hn := rfl) (hst := rfl) (hw := Nat.le_of_ble_eq_true rfl) (hR := ⟨⟨rfl, rfl⟩, Nat.le_of_ble_eq_true rfl, Nat.le_of_ble_eq_true rfl⟩) (hnc := ⟨Nat.zero_le _, Nat.zero_le _⟩) (fun r_2 y_2 h_2 => ?_)
  obtain ⟨e_2, ey_2⟩ := h_2
  obtain rfl := ey_2.symm
  obtain rfl : r_2 = 1 := e_2.trans (by decide)
  refine rm_if_eq (tgt := 23) hc dX9_count_12 (by decide) (fun h => absurd h (by decide)) (fun _ => ?_)
  refine rm_aload_n hc dX9_count_15 rfl rfl ?_
  refine rm_iload_n hc dX9_count_16 rfl rfl ?_
  refine rm_calliV (As := [.int 2]) (rest := []) hc dX9_count_17 (c_X9_counted_2 hI x_1) mv_X9_162 dm_14 rfl rfl (hn := rfl) (hst := rfl) (hw := Nat.le_of_ble_eq_true rfl) (hR := ⟨⟨rfl, rfl⟩, Nat.le_of_ble_eq_true rfl, Nat.le_of_ble_eq_true rfl⟩) (hnc := ⟨Nat.zero_le _, Nat.zero_le _⟩) (fun r_4 y_4 h_4 => ?_)
  obtain ⟨e_4, ey_4⟩ := h_4
  obtain rfl := ey_4.symm
  refine rm_goto (tgt := 28) hc dX9_count_20 (by decide) ?_
  exact rm_iret hc dX9_count_28 ⟨by rw [e_4]; subst_vars; exact cntM_T0, by subst_vars; rfl⟩

set_option maxHeartbeats 4000000 in
set_option maxRecDepth 100000 in
theorem c_X9_count_o3 {l : Launch} {D : va_G} {cy : Nat → ClassId} {ad : Ads} (hI : IJ ad) (x : Mem)  : Cti l yX9_count cX9_count 2 (some .int) rm_X9_count D cy ad [.ref (ad 15 14 0), .int 3] x (fun r y => r = cntM x 3 ∧ y = T0 x) := by
  refine rm_entry (Qc := Qi D cy ad (fun r y => r = cntM x 3 ∧ y = T0 x)) hI (by decide) (Nat.le_of_ble_eq_true rfl) ?_
  intro p e s m args below meth c hc
  show RM _ _ _ _ _ _ _ _ _ _ _ _ _ _ _ _ _ [(0, .ref (ad 15 14 0)), (1, .int 3)] []
  refine rm_aload_n hc dX9_count_0 rfl rfl ?_
  refine rm_iconst (v := 0) hc dX9_count_1 (by decide) ?_
  refine rm_put hc dX9_count_2 fl_X9_25 dm_14 rfl (Nat.le_of_ble_eq_true rfl) ft_9_6 rfl rfl so_14_6 (rm_nm (fun x_1 ex_1 => ?_))
  refine rm_iload_n hc dX9_count_5 rfl rfl ?_
  refine rm_iconst (v := 0) hc dX9_count_6 (by decide) ?_
  refine rm_bipush (v := 7) hc dX9_count_7 (by decide) ?_
  refine rm_calliS (As := [.int 3, .int 0, .int 7]) (rest := []) hc dX9_count_9 (c_X9_in hI x_1 3 0 7) ms_X9_29 (hn := rfl) (hst := rfl) (hw := Nat.le_of_ble_eq_true rfl) (hR := ⟨⟨rfl, rfl⟩, Nat.le_of_ble_eq_true rfl, Nat.le_of_ble_eq_true rfl⟩) (hnc := ⟨Nat.zero_le _, Nat.zero_le _⟩) (fun r_2 y_2 h_2 => ?_)
  obtain ⟨e_2, ey_2⟩ := h_2
  obtain rfl := ey_2.symm
  obtain rfl : r_2 = 1 := e_2.trans (by decide)
  refine rm_if_eq (tgt := 23) hc dX9_count_12 (by decide) (fun h => absurd h (by decide)) (fun _ => ?_)
  refine rm_aload_n hc dX9_count_15 rfl rfl ?_
  refine rm_iload_n hc dX9_count_16 rfl rfl ?_
  refine rm_calliV (As := [.int 3]) (rest := []) hc dX9_count_17 (c_X9_counted_3 hI x_1) mv_X9_162 dm_14 rfl rfl (hn := rfl) (hst := rfl) (hw := Nat.le_of_ble_eq_true rfl) (hR := ⟨⟨rfl, rfl⟩, Nat.le_of_ble_eq_true rfl, Nat.le_of_ble_eq_true rfl⟩) (hnc := ⟨Nat.zero_le _, Nat.zero_le _⟩) (fun r_4 y_4 h_4 => ?_)
  obtain ⟨e_4, ey_4⟩ := h_4
  obtain rfl := ey_4.symm
  refine rm_goto (tgt := 28) hc dX9_count_20 (by decide) ?_
  exact rm_iret hc dX9_count_28 ⟨by rw [e_4]; subst_vars; exact cntM_T0, by subst_vars; rfl⟩

set_option maxHeartbeats 4000000 in
set_option maxRecDepth 100000 in
theorem c_X9_count_o4 {l : Launch} {D : va_G} {cy : Nat → ClassId} {ad : Ads} (hI : IJ ad) (x : Mem)  : Cti l yX9_count cX9_count 2 (some .int) rm_X9_count D cy ad [.ref (ad 15 14 0), .int 4] x (fun r y => r = cntM x 4 ∧ y = T0 x) := by
  refine rm_entry (Qc := Qi D cy ad (fun r y => r = cntM x 4 ∧ y = T0 x)) hI (by decide) (Nat.le_of_ble_eq_true rfl) ?_
  intro p e s m args below meth c hc
  show RM _ _ _ _ _ _ _ _ _ _ _ _ _ _ _ _ _ [(0, .ref (ad 15 14 0)), (1, .int 4)] []
  refine rm_aload_n hc dX9_count_0 rfl rfl ?_
  refine rm_iconst (v := 0) hc dX9_count_1 (by decide) ?_
  refine rm_put hc dX9_count_2 fl_X9_25 dm_14 rfl (Nat.le_of_ble_eq_true rfl) ft_9_6 rfl rfl so_14_6 (rm_nm (fun x_1 ex_1 => ?_))
  refine rm_iload_n hc dX9_count_5 rfl rfl ?_
  refine rm_iconst (v := 0) hc dX9_count_6 (by decide) ?_
  refine rm_bipush (v := 7) hc dX9_count_7 (by decide) ?_
  refine rm_calliS (As := [.int 4, .int 0, .int 7]) (rest := []) hc dX9_count_9 (c_X9_in hI x_1 4 0 7) ms_X9_29 (hn := rfl) (hst := rfl) (hw := Nat.le_of_ble_eq_true rfl) (hR := ⟨⟨rfl, rfl⟩, Nat.le_of_ble_eq_true rfl, Nat.le_of_ble_eq_true rfl⟩) (hnc := ⟨Nat.zero_le _, Nat.zero_le _⟩) (fun r_2 y_2 h_2 => ?_)
  obtain ⟨e_2, ey_2⟩ := h_2
  obtain rfl := ey_2.symm
  obtain rfl : r_2 = 1 := e_2.trans (by decide)
  refine rm_if_eq (tgt := 23) hc dX9_count_12 (by decide) (fun h => absurd h (by decide)) (fun _ => ?_)
  refine rm_aload_n hc dX9_count_15 rfl rfl ?_
  refine rm_iload_n hc dX9_count_16 rfl rfl ?_
  refine rm_calliV (As := [.int 4]) (rest := []) hc dX9_count_17 (c_X9_counted_4 hI x_1) mv_X9_162 dm_14 rfl rfl (hn := rfl) (hst := rfl) (hw := Nat.le_of_ble_eq_true rfl) (hR := ⟨⟨rfl, rfl⟩, Nat.le_of_ble_eq_true rfl, Nat.le_of_ble_eq_true rfl⟩) (hnc := ⟨Nat.zero_le _, Nat.zero_le _⟩) (fun r_4 y_4 h_4 => ?_)
  obtain ⟨e_4, ey_4⟩ := h_4
  obtain rfl := ey_4.symm
  refine rm_goto (tgt := 28) hc dX9_count_20 (by decide) ?_
  exact rm_iret hc dX9_count_28 ⟨by rw [e_4]; subst_vars; exact cntM_T0, by subst_vars; rfl⟩

set_option maxHeartbeats 4000000 in
set_option maxRecDepth 100000 in
theorem c_X9_count_o5 {l : Launch} {D : va_G} {cy : Nat → ClassId} {ad : Ads} (hI : IJ ad) (x : Mem)  : Cti l yX9_count cX9_count 2 (some .int) rm_X9_count D cy ad [.ref (ad 15 14 0), .int 5] x (fun r y => r = cntM x 5 ∧ y = T0 x) := by
  refine rm_entry (Qc := Qi D cy ad (fun r y => r = cntM x 5 ∧ y = T0 x)) hI (by decide) (Nat.le_of_ble_eq_true rfl) ?_
  intro p e s m args below meth c hc
  show RM _ _ _ _ _ _ _ _ _ _ _ _ _ _ _ _ _ [(0, .ref (ad 15 14 0)), (1, .int 5)] []
  refine rm_aload_n hc dX9_count_0 rfl rfl ?_
  refine rm_iconst (v := 0) hc dX9_count_1 (by decide) ?_
  refine rm_put hc dX9_count_2 fl_X9_25 dm_14 rfl (Nat.le_of_ble_eq_true rfl) ft_9_6 rfl rfl so_14_6 (rm_nm (fun x_1 ex_1 => ?_))
  refine rm_iload_n hc dX9_count_5 rfl rfl ?_
  refine rm_iconst (v := 0) hc dX9_count_6 (by decide) ?_
  refine rm_bipush (v := 7) hc dX9_count_7 (by decide) ?_
  refine rm_calliS (As := [.int 5, .int 0, .int 7]) (rest := []) hc dX9_count_9 (c_X9_in hI x_1 5 0 7) ms_X9_29 (hn := rfl) (hst := rfl) (hw := Nat.le_of_ble_eq_true rfl) (hR := ⟨⟨rfl, rfl⟩, Nat.le_of_ble_eq_true rfl, Nat.le_of_ble_eq_true rfl⟩) (hnc := ⟨Nat.zero_le _, Nat.zero_le _⟩) (fun r_2 y_2 h_2 => ?_)
  obtain ⟨e_2, ey_2⟩ := h_2
  obtain rfl := ey_2.symm
  obtain rfl : r_2 = 1 := e_2.trans (by decide)
  refine rm_if_eq (tgt := 23) hc dX9_count_12 (by decide) (fun h => absurd h (by decide)) (fun _ => ?_)
  refine rm_aload_n hc dX9_count_15 rfl rfl ?_
  refine rm_iload_n hc dX9_count_16 rfl rfl ?_
  refine rm_calliV (As := [.int 5]) (rest := []) hc dX9_count_17 (c_X9_counted_5 hI x_1) mv_X9_162 dm_14 rfl rfl (hn := rfl) (hst := rfl) (hw := Nat.le_of_ble_eq_true rfl) (hR := ⟨⟨rfl, rfl⟩, Nat.le_of_ble_eq_true rfl, Nat.le_of_ble_eq_true rfl⟩) (hnc := ⟨Nat.zero_le _, Nat.zero_le _⟩) (fun r_4 y_4 h_4 => ?_)
  obtain ⟨e_4, ey_4⟩ := h_4
  obtain rfl := ey_4.symm
  refine rm_goto (tgt := 28) hc dX9_count_20 (by decide) ?_
  exact rm_iret hc dX9_count_28 ⟨by rw [e_4]; subst_vars; exact cntM_T0, by subst_vars; rfl⟩

set_option maxHeartbeats 4000000 in
set_option maxRecDepth 100000 in
theorem c_X9_count_o6 {l : Launch} {D : va_G} {cy : Nat → ClassId} {ad : Ads} (hI : IJ ad) (x : Mem)  : Cti l yX9_count cX9_count 2 (some .int) rm_X9_count D cy ad [.ref (ad 15 14 0), .int 6] x (fun r y => r = cntM x 6 ∧ y = T0 x) := by
  refine rm_entry (Qc := Qi D cy ad (fun r y => r = cntM x 6 ∧ y = T0 x)) hI (by decide) (Nat.le_of_ble_eq_true rfl) ?_
  intro p e s m args below meth c hc
  show RM _ _ _ _ _ _ _ _ _ _ _ _ _ _ _ _ _ [(0, .ref (ad 15 14 0)), (1, .int 6)] []
  refine rm_aload_n hc dX9_count_0 rfl rfl ?_
  refine rm_iconst (v := 0) hc dX9_count_1 (by decide) ?_
  refine rm_put hc dX9_count_2 fl_X9_25 dm_14 rfl (Nat.le_of_ble_eq_true rfl) ft_9_6 rfl rfl so_14_6 (rm_nm (fun x_1 ex_1 => ?_))
  refine rm_iload_n hc dX9_count_5 rfl rfl ?_
  refine rm_iconst (v := 0) hc dX9_count_6 (by decide) ?_
  refine rm_bipush (v := 7) hc dX9_count_7 (by decide) ?_
  refine rm_calliS (As := [.int 6, .int 0, .int 7]) (rest := []) hc dX9_count_9 (c_X9_in hI x_1 6 0 7) ms_X9_29 (hn := rfl) (hst := rfl) (hw := Nat.le_of_ble_eq_true rfl) (hR := ⟨⟨rfl, rfl⟩, Nat.le_of_ble_eq_true rfl, Nat.le_of_ble_eq_true rfl⟩) (hnc := ⟨Nat.zero_le _, Nat.zero_le _⟩) (fun r_2 y_2 h_2 => ?_)
  obtain ⟨e_2, ey_2⟩ := h_2
  obtain rfl := ey_2.symm
  obtain rfl : r_2 = 1 := e_2.trans (by decide)
  refine rm_if_eq (tgt := 23) hc dX9_count_12 (by decide) (fun h => absurd h (by decide)) (fun _ => ?_)
  refine rm_aload_n hc dX9_count_15 rfl rfl ?_
  refine rm_iload_n hc dX9_count_16 rfl rfl ?_
  refine rm_calliV (As := [.int 6]) (rest := []) hc dX9_count_17 (c_X9_counted_6 hI x_1) mv_X9_162 dm_14 rfl rfl (hn := rfl) (hst := rfl) (hw := Nat.le_of_ble_eq_true rfl) (hR := ⟨⟨rfl, rfl⟩, Nat.le_of_ble_eq_true rfl, Nat.le_of_ble_eq_true rfl⟩) (hnc := ⟨Nat.zero_le _, Nat.zero_le _⟩) (fun r_4 y_4 h_4 => ?_)
  obtain ⟨e_4, ey_4⟩ := h_4
  obtain rfl := ey_4.symm
  refine rm_goto (tgt := 28) hc dX9_count_20 (by decide) ?_
  exact rm_iret hc dX9_count_28 ⟨by rw [e_4]; subst_vars; exact cntM_T0, by subst_vars; rfl⟩

set_option maxHeartbeats 4000000 in
set_option maxRecDepth 100000 in
theorem c_X9_count_o7 {l : Launch} {D : va_G} {cy : Nat → ClassId} {ad : Ads} (hI : IJ ad) (x : Mem)  : Cti l yX9_count cX9_count 2 (some .int) rm_X9_count D cy ad [.ref (ad 15 14 0), .int 7] x (fun r y => r = cntM x 7 ∧ y = T0 x) := by
  refine rm_entry (Qc := Qi D cy ad (fun r y => r = cntM x 7 ∧ y = T0 x)) hI (by decide) (Nat.le_of_ble_eq_true rfl) ?_
  intro p e s m args below meth c hc
  show RM _ _ _ _ _ _ _ _ _ _ _ _ _ _ _ _ _ [(0, .ref (ad 15 14 0)), (1, .int 7)] []
  refine rm_aload_n hc dX9_count_0 rfl rfl ?_
  refine rm_iconst (v := 0) hc dX9_count_1 (by decide) ?_
  refine rm_put hc dX9_count_2 fl_X9_25 dm_14 rfl (Nat.le_of_ble_eq_true rfl) ft_9_6 rfl rfl so_14_6 (rm_nm (fun x_1 ex_1 => ?_))
  refine rm_iload_n hc dX9_count_5 rfl rfl ?_
  refine rm_iconst (v := 0) hc dX9_count_6 (by decide) ?_
  refine rm_bipush (v := 7) hc dX9_count_7 (by decide) ?_
  refine rm_calliS (As := [.int 7, .int 0, .int 7]) (rest := []) hc dX9_count_9 (c_X9_in hI x_1 7 0 7) ms_X9_29 (hn := rfl) (hst := rfl) (hw := Nat.le_of_ble_eq_true rfl) (hR := ⟨⟨rfl, rfl⟩, Nat.le_of_ble_eq_true rfl, Nat.le_of_ble_eq_true rfl⟩) (hnc := ⟨Nat.zero_le _, Nat.zero_le _⟩) (fun r_2 y_2 h_2 => ?_)
  obtain ⟨e_2, ey_2⟩ := h_2
  obtain rfl := ey_2.symm
  obtain rfl : r_2 = 1 := e_2.trans (by decide)
  refine rm_if_eq (tgt := 23) hc dX9_count_12 (by decide) (fun h => absurd h (by decide)) (fun _ => ?_)
  refine rm_aload_n hc dX9_count_15 rfl rfl ?_
  refine rm_iload_n hc dX9_count_16 rfl rfl ?_
  refine rm_calliV (As := [.int 7]) (rest := []) hc dX9_count_17 (c_X9_counted_7 hI x_1) mv_X9_162 dm_14 rfl rfl (hn := rfl) (hst := rfl) (hw := Nat.le_of_ble_eq_true rfl) (hR := ⟨⟨rfl, rfl⟩, Nat.le_of_ble_eq_true rfl, Nat.le_of_ble_eq_true rfl⟩) (hnc := ⟨Nat.zero_le _, Nat.zero_le _⟩) (fun r_4 y_4 h_4 => ?_)
  obtain ⟨e_4, ey_4⟩ := h_4
  obtain rfl := ey_4.symm
  refine rm_goto (tgt := 28) hc dX9_count_20 (by decide) ?_
  exact rm_iret hc dX9_count_28 ⟨by rw [e_4]; subst_vars; exact cntM_T0, by subst_vars; rfl⟩

set_option maxHeartbeats 4000000 in
set_option maxRecDepth 100000 in
theorem c_X9_setting_1 {l : Launch} {D : va_G} {cy : Nat → ClassId} {ad : Ads} (hI : IJ ad) (x : Mem) (p0 : Int32) (h0 : inM p0 0 2 = 0) : Cti l yX9_setting cX9_setting 2 (some .int) rm_X9_setting D cy ad [.ref (ad 15 14 0), .int p0] x (fun r y => r = 0 ∧ y = TF x 1) := by
  refine rm_entry (Qc := Qi D cy ad (fun r y => r = 0 ∧ y = TF x 1)) hI (by decide) (Nat.le_of_ble_eq_true rfl) ?_
  intro p e s m args below meth c hc
  show RM _ _ _ _ _ _ _ _ _ _ _ _ _ _ _ _ _ [(0, .ref (ad 15 14 0)), (1, .int p0)] []
  refine rm_aload_n hc dX9_setting_0 rfl rfl ?_
  refine rm_iconst (v := 0) hc dX9_setting_1 (by decide) ?_
  refine rm_put hc dX9_setting_2 fl_X9_25 dm_14 rfl (Nat.le_of_ble_eq_true rfl) ft_9_6 rfl rfl so_14_6 (rm_nm (fun x_1 ex_1 => ?_))
  refine rm_iload_n hc dX9_setting_5 rfl rfl ?_
  refine rm_iconst (v := 0) hc dX9_setting_6 (by decide) ?_
  refine rm_iconst (v := 2) hc dX9_setting_7 (by decide) ?_
  refine rm_calliS (As := [.int p0, .int 0, .int 2]) (rest := []) hc dX9_setting_8 (c_X9_in hI x_1 p0 0 2) ms_X9_29 (hn := rfl) (hst := rfl) (hw := Nat.le_of_ble_eq_true rfl) (hR := ⟨⟨rfl, rfl⟩, Nat.le_of_ble_eq_true rfl, Nat.le_of_ble_eq_true rfl⟩) (hnc := ⟨Nat.zero_le _, Nat.zero_le _⟩) (fun r_2 y_2 h_2 => ?_)
  obtain ⟨e_2, ey_2⟩ := h_2
  obtain rfl := ey_2.symm
  obtain rfl : r_2 = 0 := e_2.trans h0
  refine rm_if_eq (tgt := 23) hc dX9_setting_11 (by decide) (fun _ => ?_) (fun h => absurd (by decide) h)
  refine rm_aload_n hc dX9_setting_23 rfl rfl ?_
  refine rm_iconst (v := 1) hc dX9_setting_24 (by decide) ?_
  refine rm_calliV (As := [.int 1]) (rest := []) hc dX9_setting_25 (c_X9_fails hI x_1 1) mv_X9_44 dm_14 rfl rfl (hn := rfl) (hst := rfl) (hw := Nat.le_of_ble_eq_true rfl) (hR := ⟨⟨rfl, rfl⟩, Nat.le_of_ble_eq_true rfl, Nat.le_of_ble_eq_true rfl⟩) (hnc := ⟨Nat.zero_le _, Nat.zero_le _⟩) (fun r_4 y_4 h_4 => ?_)
  obtain ⟨e_4, ey_4⟩ := h_4
  exact rm_iret hc dX9_setting_28 ⟨e_4, by subst_vars; rfl⟩

set_option maxHeartbeats 4000000 in
set_option maxRecDepth 100000 in
theorem c_X9_setting_o {l : Launch} {D : va_G} {cy : Nat → ClassId} {ad : Ads} (hI : IJ ad) (x : Mem) {w : Nat} (hw3 : w < 3) : Cti l yX9_setting cX9_setting 2 (some .int) rm_X9_setting D cy ad [.ref (ad 15 14 0), .int (nI (w))] x (fun r y => r = x 10 w ∧ y = T0 x) := by
  refine rm_entry (Qc := Qi D cy ad (fun r y => r = x 10 w ∧ y = T0 x)) hI (by decide) (Nat.le_of_ble_eq_true rfl) ?_
  intro p e s m args below meth c hc
  show RM _ _ _ _ _ _ _ _ _ _ _ _ _ _ _ _ _ [(0, .ref (ad 15 14 0)), (1, .int (nI (w)))] []
  refine rm_aload_n hc dX9_setting_0 rfl rfl ?_
  refine rm_iconst (v := 0) hc dX9_setting_1 (by decide) ?_
  refine rm_put hc dX9_setting_2 fl_X9_25 dm_14 rfl (Nat.le_of_ble_eq_true rfl) ft_9_6 rfl rfl so_14_6 (rm_nm (fun x_1 ex_1 => ?_))
  refine rm_iload_n hc dX9_setting_5 rfl rfl ?_
  refine rm_iconst (v := 0) hc dX9_setting_6 (by decide) ?_
  refine rm_iconst (v := 2) hc dX9_setting_7 (by decide) ?_
  refine rm_calliS (As := [.int (nI (w)), .int 0, .int 2]) (rest := []) hc dX9_setting_8 (c_X9_in hI x_1 (nI (w)) 0 2) ms_X9_29 (hn := rfl) (hst := rfl) (hw := Nat.le_of_ble_eq_true rfl) (hR := ⟨⟨rfl, rfl⟩, Nat.le_of_ble_eq_true rfl, Nat.le_of_ble_eq_true rfl⟩) (hnc := ⟨Nat.zero_le _, Nat.zero_le _⟩) (fun r_2 y_2 h_2 => ?_)
  obtain ⟨e_2, ey_2⟩ := h_2
  obtain rfl := ey_2.symm
  obtain rfl : r_2 = 1 := e_2.trans (inN (n := 2) rfl (by omega) (by omega))
  refine rm_if_eq (tgt := 23) hc dX9_setting_11 (by decide) (fun h => absurd h (by decide)) (fun _ => ?_)
  refine rm_aload_n hc dX9_setting_14 rfl rfl ?_
  refine rm_get hc dX9_setting_15 fl_X9_7 dm_14 rfl rfl ?_
  refine rm_iload_n hc dX9_setting_18 rfl rfl ?_
  refine rm_iald (i := w) hc dX9_setting_19 (dm_15 (by omega)) rfl (by omega) (by decide) rfl (fun v_4 e_4 => ?_)
  refine rm_goto (tgt := 28) hc dX9_setting_20 (by decide) ?_
  exact rm_iret hc dX9_setting_28 ⟨by rw [e_4]; subst_vars; exact congrFun T0_10 _, by subst_vars; rfl⟩

set_option maxHeartbeats 4000000 in
set_option maxRecDepth 100000 in
theorem c_X9_ifHeard_1 {l : Launch} {D : va_G} {cy : Nat → ClassId} {ad : Ads} (hI : IJ ad) (x : Mem) (p0 p1 : Int32) (h0 : inM p0 0 2 = 0) : Cti l yX9_ifHeard cX9_ifHeard 3 (some .int) rm_X9_ifHeard D cy ad [.ref (ad 15 14 0), .int p0, .int p1] x (fun r y => r = 0 ∧ y = TF x 1) := by
  refine rm_entry (Qc := Qi D cy ad (fun r y => r = 0 ∧ y = TF x 1)) hI (by decide) (Nat.le_of_ble_eq_true rfl) ?_
  intro p e s m args below meth c hc
  show RM _ _ _ _ _ _ _ _ _ _ _ _ _ _ _ _ _ [(0, .ref (ad 15 14 0)), (1, .int p0), (2, .int p1)] []
  refine rm_aload_n hc dX9_ifHeard_0 rfl rfl ?_
  refine rm_iconst (v := 0) hc dX9_ifHeard_1 (by decide) ?_
  refine rm_put hc dX9_ifHeard_2 fl_X9_25 dm_14 rfl (Nat.le_of_ble_eq_true rfl) ft_9_6 rfl rfl so_14_6 (rm_nm (fun x_1 ex_1 => ?_))
  refine rm_iload_n hc dX9_ifHeard_5 rfl rfl ?_
  refine rm_calliS (As := [.int p0]) (rest := []) hc dX9_ifHeard_6 (c_X9_isDoor hI x_1 p0) ms_X9_33 (hn := rfl) (hst := rfl) (hw := Nat.le_of_ble_eq_true rfl) (hR := ⟨⟨rfl, rfl⟩, Nat.le_of_ble_eq_true rfl, Nat.le_of_ble_eq_true rfl⟩) (hnc := ⟨Nat.zero_le _, Nat.zero_le _⟩) (fun r_2 y_2 h_2 => ?_)
  obtain ⟨e_2, ey_2⟩ := h_2
  obtain rfl := ey_2.symm
  obtain rfl : r_2 = 0 := e_2.trans h0
  refine rm_if_ne (tgt := 18) hc dX9_ifHeard_9 (by decide) (fun h => absurd h (by decide)) (fun _ => ?_)
  refine rm_aload_n hc dX9_ifHeard_12 rfl rfl ?_
  refine rm_iconst (v := 1) hc dX9_ifHeard_13 (by decide) ?_
  refine rm_calliV (As := [.int 1]) (rest := []) hc dX9_ifHeard_14 (c_X9_fails hI x_1 1) mv_X9_44 dm_14 rfl rfl (hn := rfl) (hst := rfl) (hw := Nat.le_of_ble_eq_true rfl) (hR := ⟨⟨rfl, rfl⟩, Nat.le_of_ble_eq_true rfl, Nat.le_of_ble_eq_true rfl⟩) (hnc := ⟨Nat.zero_le _, Nat.zero_le _⟩) (fun r_4 y_4 h_4 => ?_)
  obtain ⟨e_4, ey_4⟩ := h_4
  exact rm_iret hc dX9_ifHeard_17 ⟨e_4, by subst_vars; rfl⟩

set_option maxHeartbeats 4000000 in
set_option maxRecDepth 100000 in
theorem c_X9_ifHeard_2 {l : Launch} {D : va_G} {cy : Nat → ClassId} {ad : Ads} (hI : IJ ad) (x : Mem) {d : Nat} (hd3 : d < 3) (p1 : Int32) (h0 : inM p1 0 65535 = 0) : Cti l yX9_ifHeard cX9_ifHeard 3 (some .int) rm_X9_ifHeard D cy ad [.ref (ad 15 14 0), .int (nI (d)), .int p1] x (fun r y => r = 0 ∧ y = TF x 2) := by
  refine rm_entry (Qc := Qi D cy ad (fun r y => r = 0 ∧ y = TF x 2)) hI (by decide) (Nat.le_of_ble_eq_true rfl) ?_
  intro p e s m args below meth c hc
  show RM _ _ _ _ _ _ _ _ _ _ _ _ _ _ _ _ _ [(0, .ref (ad 15 14 0)), (1, .int (nI (d))), (2, .int p1)] []
  refine rm_aload_n hc dX9_ifHeard_0 rfl rfl ?_
  refine rm_iconst (v := 0) hc dX9_ifHeard_1 (by decide) ?_
  refine rm_put hc dX9_ifHeard_2 fl_X9_25 dm_14 rfl (Nat.le_of_ble_eq_true rfl) ft_9_6 rfl rfl so_14_6 (rm_nm (fun x_1 ex_1 => ?_))
  refine rm_iload_n hc dX9_ifHeard_5 rfl rfl ?_
  refine rm_calliS (As := [.int (nI (d))]) (rest := []) hc dX9_ifHeard_6 (c_X9_isDoor hI x_1 (nI (d))) ms_X9_33 (hn := rfl) (hst := rfl) (hw := Nat.le_of_ble_eq_true rfl) (hR := ⟨⟨rfl, rfl⟩, Nat.le_of_ble_eq_true rfl, Nat.le_of_ble_eq_true rfl⟩) (hnc := ⟨Nat.zero_le _, Nat.zero_le _⟩) (fun r_2 y_2 h_2 => ?_)
  obtain ⟨e_2, ey_2⟩ := h_2
  obtain rfl := ey_2.symm
  obtain rfl : r_2 = 1 := e_2.trans (inN (n := 2) rfl (by omega) (by omega))
  refine rm_if_ne (tgt := 18) hc dX9_ifHeard_9 (by decide) (fun _ => ?_) (fun h => absurd h (by decide))
  refine rm_iload_n hc dX9_ifHeard_18 rfl rfl ?_
  refine rm_iconst (v := 0) hc dX9_ifHeard_19 (by decide) ?_
  refine rm_ldc hc dX9_ifHeard_20 kc_X9_165 ?_
  refine rm_calliS (As := [.int p1, .int 0, .int 65535]) (rest := []) hc dX9_ifHeard_22 (c_X9_in hI x_1 p1 0 65535) ms_X9_29 (hn := rfl) (hst := rfl) (hw := Nat.le_of_ble_eq_true rfl) (hR := ⟨⟨rfl, rfl⟩, Nat.le_of_ble_eq_true rfl, Nat.le_of_ble_eq_true rfl⟩) (hnc := ⟨Nat.zero_le _, Nat.zero_le _⟩) (fun r_4 y_4 h_4 => ?_)
  obtain ⟨e_4, ey_4⟩ := h_4
  obtain rfl := ey_4.symm
  obtain rfl : r_4 = 0 := e_4.trans h0
  refine rm_if_eq (tgt := 41) hc dX9_ifHeard_25 (by decide) (fun _ => ?_) (fun h => absurd (by decide) h)
  refine rm_aload_n hc dX9_ifHeard_41 rfl rfl ?_
  refine rm_iconst (v := 2) hc dX9_ifHeard_42 (by decide) ?_
  refine rm_calliV (As := [.int 2]) (rest := []) hc dX9_ifHeard_43 (c_X9_fails hI x_1 2) mv_X9_44 dm_14 rfl rfl (hn := rfl) (hst := rfl) (hw := Nat.le_of_ble_eq_true rfl) (hR := ⟨⟨rfl, rfl⟩, Nat.le_of_ble_eq_true rfl, Nat.le_of_ble_eq_true rfl⟩) (hnc := ⟨Nat.zero_le _, Nat.zero_le _⟩) (fun r_6 y_6 h_6 => ?_)
  obtain ⟨e_6, ey_6⟩ := h_6
  exact rm_iret hc dX9_ifHeard_46 ⟨e_6, by subst_vars; rfl⟩

set_option maxHeartbeats 4000000 in
set_option maxRecDepth 100000 in
theorem c_X9_ifHeard_o {l : Launch} {D : va_G} {cy : Nat → ClassId} {ad : Ads} (hI : IJ ad) (x : Mem) {d : Nat} (hd3 : d < 3) (p1 : Int32) (hs1 : ¬ p1 < 0) (hs2 : ¬ 65535 < p1) (hRS : RS (x 10)) (mm : Nat) (hmm : mm ≤ 500) (hw : x 10 1 = nI mm) : Cti l yX9_ifHeard cX9_ifHeard 3 (some .int) rm_X9_ifHeard D cy ad [.ref (ad 15 14 0), .int (nI (d)), .int p1] x (fun r y => r = hrR x 10 d 10 p1 mm ∧ M7 (T0 x) y) := by
  refine rm_entry (Qc := Qi D cy ad (fun r y => r = hrR x 10 d 10 p1 mm ∧ M7 (T0 x) y)) hI (by decide) (Nat.le_of_ble_eq_true rfl) ?_
  intro p e s m args below meth c hc
  show RM _ _ _ _ _ _ _ _ _ _ _ _ _ _ _ _ _ [(0, .ref (ad 15 14 0)), (1, .int (nI (d))), (2, .int p1)] []
  refine rm_aload_n hc dX9_ifHeard_0 rfl rfl ?_
  refine rm_iconst (v := 0) hc dX9_ifHeard_1 (by decide) ?_
  refine rm_put hc dX9_ifHeard_2 fl_X9_25 dm_14 rfl (Nat.le_of_ble_eq_true rfl) ft_9_6 rfl rfl so_14_6 (rm_nm (fun x_1 ex_1 => ?_))
  refine rm_iload_n hc dX9_ifHeard_5 rfl rfl ?_
  refine rm_calliS (As := [.int (nI (d))]) (rest := []) hc dX9_ifHeard_6 (c_X9_isDoor hI x_1 (nI (d))) ms_X9_33 (hn := rfl) (hst := rfl) (hw := Nat.le_of_ble_eq_true rfl) (hR := ⟨⟨rfl, rfl⟩, Nat.le_of_ble_eq_true rfl, Nat.le_of_ble_eq_true rfl⟩) (hnc := ⟨Nat.zero_le _, Nat.zero_le _⟩) (fun r_2 y_2 h_2 => ?_)
  obtain ⟨e_2, ey_2⟩ := h_2
  obtain rfl := ey_2.symm
  obtain rfl : r_2 = 1 := e_2.trans (inN (n := 2) rfl (by omega) (by omega))
  refine rm_if_ne (tgt := 18) hc dX9_ifHeard_9 (by decide) (fun _ => ?_) (fun h => absurd h (by decide))
  refine rm_iload_n hc dX9_ifHeard_18 rfl rfl ?_
  refine rm_iconst (v := 0) hc dX9_ifHeard_19 (by decide) ?_
  refine rm_ldc hc dX9_ifHeard_20 kc_X9_165 ?_
  refine rm_calliS (As := [.int p1, .int 0, .int 65535]) (rest := []) hc dX9_ifHeard_22 (c_X9_in hI x_1 p1 0 65535) ms_X9_29 (hn := rfl) (hst := rfl) (hw := Nat.le_of_ble_eq_true rfl) (hR := ⟨⟨rfl, rfl⟩, Nat.le_of_ble_eq_true rfl, Nat.le_of_ble_eq_true rfl⟩) (hnc := ⟨Nat.zero_le _, Nat.zero_le _⟩) (fun r_4 y_4 h_4 => ?_)
  obtain ⟨e_4, ey_4⟩ := h_4
  obtain rfl := ey_4.symm
  obtain rfl : r_4 = 1 := e_4.trans (inM_1 hs1 hs2)
  refine rm_if_eq (tgt := 41) hc dX9_ifHeard_25 (by decide) (fun h => absurd h (by decide)) (fun _ => ?_)
  refine rm_aload_n hc dX9_ifHeard_28 rfl rfl ?_
  refine rm_aload_n hc dX9_ifHeard_29 rfl rfl ?_
  refine rm_get hc dX9_ifHeard_30 fl_X9_7 dm_14 rfl rfl ?_
  refine rm_iload_n hc dX9_ifHeard_33 rfl rfl ?_
  refine rm_iload_n hc dX9_ifHeard_34 rfl rfl ?_
  refine rm_calliV (As := [.ref (ad 10 15 0), .int (nI (d)), .int p1]) (rest := []) hc dX9_ifHeard_35 (c_X9_would hI x_1 (k := 10) (d := d) (by omega) (by omega) p1 (by subst_vars; rw [T0_10']; exact hRS) mm (by omega) (by subst_vars; rw [T0_10']; exact hw)) mv_X9_74 dm_14 rfl rfl (hn := rfl) (hst := rfl) (hw := Nat.le_of_ble_eq_true rfl) (hR := ⟨⟨rfl, rfl⟩, Nat.le_of_ble_eq_true rfl, Nat.le_of_ble_eq_true rfl⟩) (hnc := ⟨Nat.zero_le _, Nat.zero_le _⟩) (fun r_6 y_6 h_6 => ?_)
  obtain ⟨e_6, hM_6, -⟩ := h_6
  refine rm_goto (tgt := 46) hc dX9_ifHeard_38 (by decide) ?_
  exact rm_iret hc dX9_ifHeard_46 ⟨by rw [e_6]; subst_vars; exact hrR_blk T0_10, by subst_vars; exact hM_6⟩

set_option maxHeartbeats 4000000 in
set_option maxRecDepth 100000 in
theorem c_X9_opens {l : Launch} {D : va_G} {cy : Nat → ClassId} {ad : Ads} (hI : IJ ad) (x : Mem) {j d nr : Nat} (hj : j < 4) (hd3 : d < 3) (hRS : RS (x 10)) (mm : Nat) (hmm : mm ≤ 500) (hw : x 10 1 = nI mm) (hRF : RF (x 10)) (hnr : x 10 5 = nI nr) (hr8 : nr ≤ 8) : Cti l yX9_opens cX9_opens 4 (some .int) rm_X9_opens D cy ad [.ref (ad 15 14 0), .int (nI (j)), .int (nI (d))] x (fun r y => r = opK j (1 <<< (nI d &&& 31)) mm 50 (cpS x 11 0 10 0 96) 0 ∧ M11 x y) := by
  refine rm_entry (Qc := Qi D cy ad (fun r y => r = opK j (1 <<< (nI d &&& 31)) mm 50 (cpS x 11 0 10 0 96) 0 ∧ M11 x y)) hI (by decide) (Nat.le_of_ble_eq_true rfl) ?_
  intro p e s m args below meth c hc
  show RM _ _ _ _ _ _ _ _ _ _ _ _ _ _ _ _ _ [(0, .ref (ad 15 14 0)), (1, .int (nI (j))), (2, .int (nI (d)))] []
  refine rm_aload_n hc dX9_opens_0 rfl rfl ?_
  refine rm_get hc dX9_opens_1 fl_X9_7 dm_14 rfl rfl ?_
  refine rm_iconst (v := 0) hc dX9_opens_4 (by decide) ?_
  refine rm_aload_n hc dX9_opens_5 rfl rfl ?_
  refine rm_get hc dX9_opens_6 fl_X9_13 dm_14 rfl rfl ?_
  refine rm_iconst (v := 0) hc dX9_opens_9 (by decide) ?_
  refine rm_callvS (As := [.ref (ad 10 15 0), .int 0, .ref (ad 11 15 0), .int 0]) (rest := []) hc dX9_opens_10 (c_X9_copies_t hI x) ms_X9_40 (hn := rfl) (hst := rfl) (hw := Nat.le_of_ble_eq_true rfl) (hR := ⟨⟨rfl, rfl⟩, Nat.le_of_ble_eq_true rfl, Nat.le_of_ble_eq_true rfl⟩) (hnc := ⟨Nat.zero_le _, Nat.zero_le _⟩) (fun y_1 h_1 => ?_)
  refine rm_iconst (v := 1) hc dX9_opens_13 (by decide) ?_
  refine rm_istore_n (ls' := [(0, .ref (ad 15 14 0)), (1, .int (nI (j))), (2, .int (nI (d))), (3, .int 1)]) hc dX9_opens_14 rfl (by decide) rfl ?_
  have key15 : ∀ (f : Nat) (i : Nat) (zm zp : Mem) (nr' : Nat), i + f = 50 → M7 zp zm → M11 x zp → RS (zp 11) → RF (zp 11) → zp 11 1 = nI mm → zp 11 5 = nI nr' → nr' ≤ 8 → opK j (1 <<< (nI d &&& 31)) mm f zp i = opK j (1 <<< (nI d &&& 31)) mm 50 (cpS x 11 0 10 0 96) 0 → RM p l e rm_X9_opens s m args below meth c 4 (AA ad s.heap.size) (GG D cy ad zm) 0 0 (QQ (Qi D cy ad (fun r y => r = opK j (1 <<< (nI d &&& 31)) mm 50 (cpS x 11 0 10 0 96) 0 ∧ M11 x y)) below args s ad) 15 [(0, .ref (ad 15 14 0)), (1, .int (nI (j))), (2, .int (nI (d))), (3, .int (nI (i + 1)))] [] := by
    intro f
    induction f with
    | zero =>
      intro i zm zp nr' hif hZ hE hS1 hF1 hW1 hnr' hr8' hst
      refine rm_iload_n hc dX9_opens_15 rfl rfl ?_
      refine rm_bipush (v := 50) hc dX9_opens_16 (by decide) ?_
      refine rm_icmp_gt (tgt := 62) hc dX9_opens_18 (by decide) (fun _ => ?_) (fun h => absurd ((nI_ltI (a := 50) (b := i + 1) (by omega) (by omega)).mpr (by omega)) h)
      refine rm_iconst (v := -1) hc dX9_opens_62 (by decide) ?_
      exact rm_iret hc dX9_opens_63 ⟨by rw [← hst]; rfl, hE.tr hZ.m11⟩
    | succ f ih =>
      intro i zm zp nr' hif hZ hE hS1 hF1 hW1 hnr' hr8' hst
      refine rm_iload_n hc dX9_opens_15 rfl rfl ?_
      refine rm_bipush (v := 50) hc dX9_opens_16 (by decide) ?_
      refine rm_icmp_gt (tgt := 62) hc dX9_opens_18 (by decide) (fun h => absurd h (fun h2 => absurd ((nI_ltI (a := 50) (b := i + 1) (by omega) (by omega)).mp h2) (by omega))) (fun _ => ?_)
      refine rm_aload_n hc dX9_opens_21 rfl rfl ?_
      refine rm_get hc dX9_opens_22 fl_X9_13 dm_14 rfl rfl ?_
      refine rm_bipush (v := 14) hc dX9_opens_25 (by decide) ?_
      refine rm_iconst (v := 4) hc dX9_opens_27 (by decide) ?_
      refine rm_iload_n hc dX9_opens_28 rfl rfl ?_
      refine rm_imul hc dX9_opens_29 (fun v_4 e_4 => ?_)
      obtain rfl : v_4 = (nI (4 * j)) := e_4.trans (nmul (m := 4) (n := j) (by omega))
      clear e_4
      refine rm_iadd hc dX9_opens_30 (fun v_5 e_5 => ?_)
      obtain rfl : v_5 = (nI (14 + 4 * j)) := e_5.trans (nadd (m := 14) (n := 4 * j) (by omega))
      clear e_5
      refine rm_iconst (v := 2) hc dX9_opens_31 (by decide) ?_
      refine rm_iadd hc dX9_opens_32 (fun v_6 e_6 => ?_)
      obtain rfl : v_6 = (nI (16 + 4 * j)) := e_6.trans (nadd (m := 14 + 4 * j) (n := 2) (by omega))
      clear e_6
      refine rm_iald (i := 16 + 4 * j) hc dX9_opens_33 (dm_15 (by omega)) rfl (by omega) (by decide) rfl (fun v_7 e_7 => ?_)
      refine rm_if_ne (tgt := 39) hc dX9_opens_34 (by decide) (fun c_8 => ?_) (fun c_8 => ?_)
      · --
        have hb0 : ¬ zp 11 (16 + 4 * j) = 0 := fun h => c_8 (e_7.trans ((hZ.at (by omega)).trans h))
        refine rm_aload_n hc dX9_opens_39 rfl rfl ?_
        refine rm_aload_n hc dX9_opens_40 rfl rfl ?_
        refine rm_get hc dX9_opens_41 fl_X9_13 dm_14 rfl rfl ?_
        refine rm_iload_n hc dX9_opens_44 rfl rfl ?_
        refine rm_iconst (v := 1) hc dX9_opens_45 (by decide) ?_
        refine rm_iload_n hc dX9_opens_46 rfl rfl ?_
        refine rm_ishl hc dX9_opens_47 (fun v_9 e_9 => ?_)
        have hmsk : v_9 = 1 <<< (nI d &&& 31) := e_9
        refine rm_calliV (As := [.ref (ad 11 15 0), .int (nI (j)), .int v_9]) (rest := []) hc dX9_opens_48 (c_X9_presses hI zm (k := 11) (j := j) (nr := nr') (by omega) (by omega) v_9 (by rw [hZ.blk (by omega)]; exact hS1) mm (by omega) (by rw [hZ.blk (by omega)]; exact hW1) (by rw [hZ.blk (by omega)]; exact hF1) (by rw [hZ.blk (by omega)]; exact hnr') (by omega)) mv_X9_101 dm_14 rfl rfl (hn := rfl) (hst := rfl) (hw := Nat.le_of_ble_eq_true rfl) (hR := ⟨⟨rfl, rfl⟩, Nat.le_of_ble_eq_true rfl, Nat.le_of_ble_eq_true rfl⟩) (hnc := ⟨Nat.zero_le _, Nat.zero_le _⟩) (fun r_10 y_10 h_10 => ?_)
        obtain ⟨e_10, hM_10⟩ := h_10
        replace e_10 : r_10 = (prsS zp 11 j (1 <<< (nI d &&& 31)) mm).1 := by rw [e_10, hmsk]; exact (prs_blk (hZ.blk (by omega))).2
        rw [hmsk] at hM_10
        refine rm_if_eq (tgt := 56) hc dX9_opens_51 (by decide) (fun c_11 => ?_) (fun c_11 => ?_)
        · --
          have ho : (prsS zp 11 j (1 <<< (nI d &&& 31)) mm).1 = 0 := e_10.symm.trans c_11
          refine rm_iinc (v := (nI (i + 2))) (ls' := [(0, .ref (ad 15 14 0)), (1, .int (nI (j))), (2, .int (nI (d))), (3, .int (nI (i + 2)))]) hc dX9_opens_56 rfl (nIj (by omega)) (by decide) rfl ?_
          refine rm_goto (tgt := 15) hc dX9_opens_59 (by decide) ?_
          obtain ⟨nr2, hn28, hn25⟩ := prsS_5 (j := j) (msk := 1 <<< (nI d &&& 31)) (mm := mm) hnr' hr8'
          exact ih (i + 1) _ (prsS zp 11 j (1 <<< (nI d &&& 31)) mm).2 nr2 (by omega) ((hZ.prs (by omega)).tr hM_10) (hE.prs hj) (hS1.prs hj hmm) (hF1.prs hj) (prsS_1.trans hW1) hn25 hn28 (by rw [← hst, opK_n hb0 ho])
        · --
          have ho : ¬ (prsS zp 11 j (1 <<< (nI d &&& 31)) mm).1 = 0 := fun h => c_11 (e_10.trans h)
          refine rm_iload_n hc dX9_opens_54 rfl rfl ?_
          exact rm_iret hc dX9_opens_55 ⟨by rw [← hst, opK_y hb0 ho], (hE.prs hj).tr (show M7 _ _ from ((hZ.prs (by omega)).tr hM_10)).m11⟩
      · --
        have hb0 : zp 11 (16 + 4 * j) = 0 := (hZ.at (by omega)).symm.trans (e_7.symm.trans c_8)
        refine rm_iconst (v := -1) hc dX9_opens_37 (by decide) ?_
        exact rm_iret hc dX9_opens_38 ⟨by rw [← hst, opK_0 hb0], hE.tr hZ.m11⟩
  exact key15 50 0 _ (cpS x 11 0 10 0 96) nr (by omega) (by subst_vars; exact M7.rf _) M11.cp (hRS.c96 cp11) (hRF.c96 cp11) ((cp11 1 (by omega)).trans hw) ((cp11 5 (by omega)).trans hnr) hr8 rfl

set_option maxHeartbeats 4000000 in
set_option maxRecDepth 100000 in
theorem c_X9_opensIn_1 {l : Launch} {D : va_G} {cy : Nat → ClassId} {ad : Ads} (hI : IJ ad) (x : Mem) (p0 p1 : Int32) (h0 : inM p0 0 3 = 0) : Cti l yX9_opensIn cX9_opensIn 3 (some .int) rm_X9_opensIn D cy ad [.ref (ad 15 14 0), .int p0, .int p1] x (fun r y => r = 0 ∧ y = TF x 1) := by
  refine rm_entry (Qc := Qi D cy ad (fun r y => r = 0 ∧ y = TF x 1)) hI (by decide) (Nat.le_of_ble_eq_true rfl) ?_
  intro p e s m args below meth c hc
  show RM _ _ _ _ _ _ _ _ _ _ _ _ _ _ _ _ _ [(0, .ref (ad 15 14 0)), (1, .int p0), (2, .int p1)] []
  refine rm_aload_n hc dX9_opensIn_0 rfl rfl ?_
  refine rm_iconst (v := 0) hc dX9_opensIn_1 (by decide) ?_
  refine rm_put hc dX9_opensIn_2 fl_X9_25 dm_14 rfl (Nat.le_of_ble_eq_true rfl) ft_9_6 rfl rfl so_14_6 (rm_nm (fun x_1 ex_1 => ?_))
  refine rm_iload_n hc dX9_opensIn_5 rfl rfl ?_
  refine rm_calliS (As := [.int p0]) (rest := []) hc dX9_opensIn_6 (c_X9_isFob hI x_1 p0) ms_X9_92 (hn := rfl) (hst := rfl) (hw := Nat.le_of_ble_eq_true rfl) (hR := ⟨⟨rfl, rfl⟩, Nat.le_of_ble_eq_true rfl, Nat.le_of_ble_eq_true rfl⟩) (hnc := ⟨Nat.zero_le _, Nat.zero_le _⟩) (fun r_2 y_2 h_2 => ?_)
  obtain ⟨e_2, ey_2⟩ := h_2
  obtain rfl := ey_2.symm
  obtain rfl : r_2 = 0 := e_2.trans h0
  refine rm_if_eq (tgt := 28) hc dX9_opensIn_9 (by decide) (fun _ => ?_) (fun h => absurd (by decide) h)
  refine rm_aload_n hc dX9_opensIn_28 rfl rfl ?_
  refine rm_iconst (v := 1) hc dX9_opensIn_29 (by decide) ?_
  refine rm_calliV (As := [.int 1]) (rest := []) hc dX9_opensIn_30 (c_X9_fails hI x_1 1) mv_X9_44 dm_14 rfl rfl (hn := rfl) (hst := rfl) (hw := Nat.le_of_ble_eq_true rfl) (hR := ⟨⟨rfl, rfl⟩, Nat.le_of_ble_eq_true rfl, Nat.le_of_ble_eq_true rfl⟩) (hnc := ⟨Nat.zero_le _, Nat.zero_le _⟩) (fun r_4 y_4 h_4 => ?_)
  obtain ⟨e_4, ey_4⟩ := h_4
  exact rm_iret hc dX9_opensIn_33 ⟨e_4, by subst_vars; rfl⟩

set_option maxHeartbeats 4000000 in
set_option maxRecDepth 100000 in
theorem c_X9_opensIn_2 {l : Launch} {D : va_G} {cy : Nat → ClassId} {ad : Ads} (hI : IJ ad) (x : Mem) (p0 p1 : Int32) (h1 : inM p0 0 3 = 1) (h0 : inM p1 0 2 = 0) : Cti l yX9_opensIn cX9_opensIn 3 (some .int) rm_X9_opensIn D cy ad [.ref (ad 15 14 0), .int p0, .int p1] x (fun r y => r = 0 ∧ y = TF x 1) := by
  refine rm_entry (Qc := Qi D cy ad (fun r y => r = 0 ∧ y = TF x 1)) hI (by decide) (Nat.le_of_ble_eq_true rfl) ?_
  intro p e s m args below meth c hc
  show RM _ _ _ _ _ _ _ _ _ _ _ _ _ _ _ _ _ [(0, .ref (ad 15 14 0)), (1, .int p0), (2, .int p1)] []
  refine rm_aload_n hc dX9_opensIn_0 rfl rfl ?_
  refine rm_iconst (v := 0) hc dX9_opensIn_1 (by decide) ?_
  refine rm_put hc dX9_opensIn_2 fl_X9_25 dm_14 rfl (Nat.le_of_ble_eq_true rfl) ft_9_6 rfl rfl so_14_6 (rm_nm (fun x_1 ex_1 => ?_))
  refine rm_iload_n hc dX9_opensIn_5 rfl rfl ?_
  refine rm_calliS (As := [.int p0]) (rest := []) hc dX9_opensIn_6 (c_X9_isFob hI x_1 p0) ms_X9_92 (hn := rfl) (hst := rfl) (hw := Nat.le_of_ble_eq_true rfl) (hR := ⟨⟨rfl, rfl⟩, Nat.le_of_ble_eq_true rfl, Nat.le_of_ble_eq_true rfl⟩) (hnc := ⟨Nat.zero_le _, Nat.zero_le _⟩) (fun r_2 y_2 h_2 => ?_)
  obtain ⟨e_2, ey_2⟩ := h_2
  obtain rfl := ey_2.symm
  obtain rfl : r_2 = 1 := e_2.trans h1
  refine rm_if_eq (tgt := 28) hc dX9_opensIn_9 (by decide) (fun h => absurd h (by decide)) (fun _ => ?_)
  refine rm_iload_n hc dX9_opensIn_12 rfl rfl ?_
  refine rm_calliS (As := [.int p1]) (rest := []) hc dX9_opensIn_13 (c_X9_isDoor hI x_1 p1) ms_X9_33 (hn := rfl) (hst := rfl) (hw := Nat.le_of_ble_eq_true rfl) (hR := ⟨⟨rfl, rfl⟩, Nat.le_of_ble_eq_true rfl, Nat.le_of_ble_eq_true rfl⟩) (hnc := ⟨Nat.zero_le _, Nat.zero_le _⟩) (fun r_4 y_4 h_4 => ?_)
  obtain ⟨e_4, ey_4⟩ := h_4
  obtain rfl := ey_4.symm
  obtain rfl : r_4 = 0 := e_4.trans h0
  refine rm_if_eq (tgt := 28) hc dX9_opensIn_16 (by decide) (fun _ => ?_) (fun h => absurd (by decide) h)
  refine rm_aload_n hc dX9_opensIn_28 rfl rfl ?_
  refine rm_iconst (v := 1) hc dX9_opensIn_29 (by decide) ?_
  refine rm_calliV (As := [.int 1]) (rest := []) hc dX9_opensIn_30 (c_X9_fails hI x_1 1) mv_X9_44 dm_14 rfl rfl (hn := rfl) (hst := rfl) (hw := Nat.le_of_ble_eq_true rfl) (hR := ⟨⟨rfl, rfl⟩, Nat.le_of_ble_eq_true rfl, Nat.le_of_ble_eq_true rfl⟩) (hnc := ⟨Nat.zero_le _, Nat.zero_le _⟩) (fun r_6 y_6 h_6 => ?_)
  obtain ⟨e_6, ey_6⟩ := h_6
  exact rm_iret hc dX9_opensIn_33 ⟨e_6, by subst_vars; rfl⟩

set_option maxHeartbeats 4000000 in
set_option maxRecDepth 100000 in
theorem c_X9_opensIn_o {l : Launch} {D : va_G} {cy : Nat → ClassId} {ad : Ads} (hI : IJ ad) (x : Mem) {j d nr : Nat} (hj : j < 4) (hd3 : d < 3) (hRS : RS (x 10)) (mm : Nat) (hmm : mm ≤ 500) (hw : x 10 1 = nI mm) (hRF : RF (x 10)) (hnr : x 10 5 = nI nr) (hr8 : nr ≤ 8) : Cti l yX9_opensIn cX9_opensIn 3 (some .int) rm_X9_opensIn D cy ad [.ref (ad 15 14 0), .int (nI (j)), .int (nI (d))] x (fun r y => r = opK j (1 <<< (nI d &&& 31)) mm 50 (cpS (T0 x) 11 0 10 0 96) 0 ∧ M11 (T0 x) y) := by
  refine rm_entry (Qc := Qi D cy ad (fun r y => r = opK j (1 <<< (nI d &&& 31)) mm 50 (cpS (T0 x) 11 0 10 0 96) 0 ∧ M11 (T0 x) y)) hI (by decide) (Nat.le_of_ble_eq_true rfl) ?_
  intro p e s m args below meth c hc
  show RM _ _ _ _ _ _ _ _ _ _ _ _ _ _ _ _ _ [(0, .ref (ad 15 14 0)), (1, .int (nI (j))), (2, .int (nI (d)))] []
  refine rm_aload_n hc dX9_opensIn_0 rfl rfl ?_
  refine rm_iconst (v := 0) hc dX9_opensIn_1 (by decide) ?_
  refine rm_put hc dX9_opensIn_2 fl_X9_25 dm_14 rfl (Nat.le_of_ble_eq_true rfl) ft_9_6 rfl rfl so_14_6 (rm_nm (fun x_1 ex_1 => ?_))
  refine rm_iload_n hc dX9_opensIn_5 rfl rfl ?_
  refine rm_calliS (As := [.int (nI (j))]) (rest := []) hc dX9_opensIn_6 (c_X9_isFob hI x_1 (nI (j))) ms_X9_92 (hn := rfl) (hst := rfl) (hw := Nat.le_of_ble_eq_true rfl) (hR := ⟨⟨rfl, rfl⟩, Nat.le_of_ble_eq_true rfl, Nat.le_of_ble_eq_true rfl⟩) (hnc := ⟨Nat.zero_le _, Nat.zero_le _⟩) (fun r_2 y_2 h_2 => ?_)
  obtain ⟨e_2, ey_2⟩ := h_2
  obtain rfl := ey_2.symm
  obtain rfl : r_2 = 1 := e_2.trans (inN (n := 3) rfl (by omega) (by omega))
  refine rm_if_eq (tgt := 28) hc dX9_opensIn_9 (by decide) (fun h => absurd h (by decide)) (fun _ => ?_)
  refine rm_iload_n hc dX9_opensIn_12 rfl rfl ?_
  refine rm_calliS (As := [.int (nI (d))]) (rest := []) hc dX9_opensIn_13 (c_X9_isDoor hI x_1 (nI (d))) ms_X9_33 (hn := rfl) (hst := rfl) (hw := Nat.le_of_ble_eq_true rfl) (hR := ⟨⟨rfl, rfl⟩, Nat.le_of_ble_eq_true rfl, Nat.le_of_ble_eq_true rfl⟩) (hnc := ⟨Nat.zero_le _, Nat.zero_le _⟩) (fun r_4 y_4 h_4 => ?_)
  obtain ⟨e_4, ey_4⟩ := h_4
  obtain rfl := ey_4.symm
  obtain rfl : r_4 = 1 := e_4.trans (inN (n := 2) rfl (by omega) (by omega))
  refine rm_if_eq (tgt := 28) hc dX9_opensIn_16 (by decide) (fun h => absurd h (by decide)) (fun _ => ?_)
  refine rm_aload_n hc dX9_opensIn_19 rfl rfl ?_
  refine rm_iload_n hc dX9_opensIn_20 rfl rfl ?_
  refine rm_iload_n hc dX9_opensIn_21 rfl rfl ?_
  refine rm_calliV (As := [.int (nI (j)), .int (nI (d))]) (rest := []) hc dX9_opensIn_22 (c_X9_opens hI x_1 (j := j) (d := d) (nr := nr) (by omega) (by omega) (by subst_vars; rw [T0_10']; exact hRS) mm (by omega) (by subst_vars; rw [T0_10']; exact hw) (by subst_vars; rw [T0_10']; exact hRF) (by subst_vars; rw [T0_10']; exact hnr) (by omega)) mv_X9_166 dm_14 rfl rfl (hn := rfl) (hst := rfl) (hw := Nat.le_of_ble_eq_true rfl) (hR := ⟨⟨rfl, rfl⟩, Nat.le_of_ble_eq_true rfl, Nat.le_of_ble_eq_true rfl⟩) (hnc := ⟨Nat.zero_le _, Nat.zero_le _⟩) (fun r_6 y_6 h_6 => ?_)
  obtain ⟨e_6, hM_6⟩ := h_6
  refine rm_goto (tgt := 33) hc dX9_opensIn_25 (by decide) ?_
  exact rm_iret hc dX9_opensIn_33 ⟨by rw [e_6]; subst_vars; rfl, by subst_vars; exact hM_6⟩

set_option maxHeartbeats 4000000 in
set_option maxRecDepth 100000 in
theorem c_X9_misses {l : Launch} {D : va_G} {cy : Nat → ClassId} {ad : Ads} (hI : IJ ad) (x : Mem) {j d : Nat} (hj : j < 4) (hd3 : d < 3) (hRS : RS (x 10)) (mm : Nat) (hmm : mm ≤ 500) (hw : x 10 1 = nI mm) (hRF : RF (x 10)) : Cti l yX9_misses cX9_misses 5 (some .int) rm_X9_misses D cy ad [.ref (ad 15 14 0), .int (nI (j)), .int (nI (d))] x (fun r y => r = munK x 10 d (x 10 (14 + 4 * j)) mm 100 (x 10 (15 + 4 * j)) 0 ∧ M7 x y) := by
  obtain ⟨fa, fb, hfa, hfb, hf4, hf5⟩ := hRF j hj
  refine rm_entry (Qc := Qi D cy ad (fun r y => r = munK x 10 d (x 10 (14 + 4 * j)) mm 100 (x 10 (15 + 4 * j)) 0 ∧ M7 x y)) hI (by decide) (Nat.le_of_ble_eq_true rfl) ?_
  intro p e s m args below meth c hc
  show RM _ _ _ _ _ _ _ _ _ _ _ _ _ _ _ _ _ [(0, .ref (ad 15 14 0)), (1, .int (nI (j))), (2, .int (nI (d)))] []
  refine rm_iconst (v := 0) hc dX9_misses_0 (by decide) ?_
  refine rm_istore_n (ls' := [(0, .ref (ad 15 14 0)), (1, .int (nI (j))), (2, .int (nI (d))), (3, .int 0)]) hc dX9_misses_1 rfl (by decide) rfl ?_
  refine rm_iconst (v := 1) hc dX9_misses_2 (by decide) ?_
  refine rm_istore (ls' := [(0, .ref (ad 15 14 0)), (1, .int (nI (j))), (2, .int (nI (d))), (3, .int 0), (4, .int 1)]) hc dX9_misses_3 (by decide) rfl ?_
  have key5 : ∀ (f : Nat) (i : Nat) (zm : Mem), i + f = 100 → M7 x zm → munK x 10 d (nI fa) mm f (nI ((fb + i) % 10000)) i = munK x 10 d (x 10 (14 + 4 * j)) mm 100 (x 10 (15 + 4 * j)) 0 → RM p l e rm_X9_misses s m args below meth c 5 (AA ad s.heap.size) (GG D cy ad zm) 0 0 (QQ (Qi D cy ad (fun r y => r = munK x 10 d (x 10 (14 + 4 * j)) mm 100 (x 10 (15 + 4 * j)) 0 ∧ M7 x y)) below args s ad) 5 [(0, .ref (ad 15 14 0)), (1, .int (nI (j))), (2, .int (nI (d))), (3, .int (nI (i))), (4, .int 1)] [] := by
    intro f
    induction f with
    | zero =>
      intro i zm hif hM hst
      refine rm_iload_n hc dX9_misses_5 rfl rfl ?_
      refine rm_bipush (v := 100) hc dX9_misses_6 (by decide) ?_
      refine rm_icmp_ge (tgt := 84) hc dX9_misses_8 (by decide) (fun _ => ?_) (fun h => absurd ((nI_leI (a := 100) (b := i) (by omega) (by omega)).mpr (by omega)) h)
      refine rm_iload_n hc dX9_misses_84 rfl rfl ?_
      rcases Nat.eq_zero_or_pos i with hz0 | hz0
      · --
        rw [show nI i = 0 by rw [hz0]; rfl]
        refine rm_if_ne (tgt := 92) hc dX9_misses_85 (by decide) (fun h => absurd rfl h) (fun _ => ?_)
        refine rm_iconst (v := -1) hc dX9_misses_88 (by decide) ?_
        refine rm_goto (tgt := 95) hc dX9_misses_89 (by decide) ?_
        exact rm_iret hc dX9_misses_95 ⟨by rw [← hst]; exact (if_pos hz0).symm, hM⟩
      · --
        refine rm_if_ne (tgt := 92) hc dX9_misses_85 (by decide) (fun _ => ?_) (fun h => absurd h (fun h2 => absurd ((nI_eq (a := i) (b := 0) (by omega) (by omega)).mp h2) (by omega)))
        refine rm_iload_n hc dX9_misses_92 rfl rfl ?_
        refine rm_iconst (v := 1) hc dX9_misses_93 (by decide) ?_
        refine rm_isub hc dX9_misses_94 (fun v_3 e_3 => ?_)
        obtain rfl : v_3 = nI (i - 1) := e_3.trans (pk_sub (a := i) (b := 1) (by omega))
        exact rm_iret hc dX9_misses_95 ⟨by rw [← hst]; exact (if_neg (by omega)).symm, hM⟩
    | succ f ih =>
      intro i zm hif hM hst
      refine rm_iload_n hc dX9_misses_5 rfl rfl ?_
      refine rm_bipush (v := 100) hc dX9_misses_6 (by decide) ?_
      refine rm_icmp_ge (tgt := 84) hc dX9_misses_8 (by decide) (fun h => absurd h (fun h2 => absurd ((nI_leI (a := 100) (b := i) (by omega) (by omega)).mp h2) (by omega))) (fun _ => ?_)
      refine rm_iload hc dX9_misses_11 rfl ?_
      refine rm_if_eq (tgt := 84) hc dX9_misses_13 (by decide) (fun h => absurd h (by decide)) (fun _ => ?_)
      refine rm_aload_n hc dX9_misses_16 rfl rfl ?_
      refine rm_aload_n hc dX9_misses_17 rfl rfl ?_
      refine rm_get hc dX9_misses_18 fl_X9_7 dm_14 rfl rfl ?_
      refine rm_iload_n hc dX9_misses_21 rfl rfl ?_
      refine rm_aload_n hc dX9_misses_22 rfl rfl ?_
      refine rm_get hc dX9_misses_23 fl_X9_7 dm_14 rfl rfl ?_
      refine rm_bipush (v := 14) hc dX9_misses_26 (by decide) ?_
      refine rm_iconst (v := 4) hc dX9_misses_28 (by decide) ?_
      refine rm_iload_n hc dX9_misses_29 rfl rfl ?_
      refine rm_imul hc dX9_misses_30 (fun v_6 e_6 => ?_)
      obtain rfl : v_6 = (nI (4 * j)) := e_6.trans (nmul (m := 4) (n := j) (by omega))
      clear e_6
      refine rm_iadd hc dX9_misses_31 (fun v_7 e_7 => ?_)
      obtain rfl : v_7 = (nI (14 + 4 * j)) := e_7.trans (nadd (m := 14) (n := 4 * j) (by omega))
      clear e_7
      refine rm_iald (i := 14 + 4 * j) hc dX9_misses_32 (dm_15 (by omega)) rfl (by omega) (by decide) rfl (fun v_8 e_8 => ?_)
      obtain rfl : v_8 = nI fa := e_8.trans ((hM.at (by omega)).trans hf4)
      refine rm_aload_n hc dX9_misses_33 rfl rfl ?_
      refine rm_get hc dX9_misses_34 fl_X9_7 dm_14 rfl rfl ?_
      refine rm_bipush (v := 14) hc dX9_misses_37 (by decide) ?_
      refine rm_iconst (v := 4) hc dX9_misses_39 (by decide) ?_
      refine rm_iload_n hc dX9_misses_40 rfl rfl ?_
      refine rm_imul hc dX9_misses_41 (fun v_9 e_9 => ?_)
      obtain rfl : v_9 = (nI (4 * j)) := e_9.trans (nmul (m := 4) (n := j) (by omega))
      clear e_9
      refine rm_iadd hc dX9_misses_42 (fun v_10 e_10 => ?_)
      obtain rfl : v_10 = (nI (14 + 4 * j)) := e_10.trans (nadd (m := 14) (n := 4 * j) (by omega))
      clear e_10
      refine rm_iconst (v := 1) hc dX9_misses_43 (by decide) ?_
      refine rm_iadd hc dX9_misses_44 (fun v_11 e_11 => ?_)
      obtain rfl : v_11 = (nI (15 + 4 * j)) := e_11.trans (nadd (m := 14 + 4 * j) (n := 1) (by omega))
      clear e_11
      refine rm_iald (i := 15 + 4 * j) hc dX9_misses_45 (dm_15 (by omega)) rfl (by omega) (by decide) rfl (fun v_12 e_12 => ?_)
      obtain rfl : v_12 = nI fb := e_12.trans ((hM.at (by omega)).trans hf5)
      refine rm_iload_n hc dX9_misses_46 rfl rfl ?_
      refine rm_iconst (v := 1) hc dX9_misses_47 (by decide) ?_
      refine rm_iadd hc dX9_misses_48 (fun v_13 e_13 => ?_)
      obtain rfl : v_13 = (nI (i + 1)) := e_13.trans (nadd (m := i) (n := 1) (by omega))
      clear e_13
      refine rm_calliS (As := [.int (nI (fb)), .int (nI (i + 1))]) (rest := [.int (nI (fa)), .int (nI (d)), .ref (ad 10 15 0), .ref (ad 15 14 0)]) hc dX9_misses_49 (c_X9_ahead hI zm (a := fb) (b := i + 1) (by omega) (by omega)) ms_X9_60 (hn := rfl) (hst := rfl) (hw := Nat.le_of_ble_eq_true rfl) (hR := ⟨⟨rfl, rfl⟩, Nat.le_of_ble_eq_true rfl, Nat.le_of_ble_eq_true rfl⟩) (hnc := ⟨Nat.zero_le _, Nat.zero_le _⟩) (fun r_14 y_14 h_14 => ?_)
      obtain ⟨e_14, ey_14⟩ := h_14
      obtain rfl := ey_14.symm
      obtain ⟨n_14, hn_14⟩ : ∃ n_14 : Nat, n_14 = (fb + (i + 1)) % 10000 := ⟨_, rfl⟩
      have hl_14 : n_14 < 10000 := by omega
      obtain rfl : r_14 = nI n_14 := by rw [hn_14]; exact e_14
      refine rm_calliS (As := [.int (nI (fa)), .int (nI (n_14))]) (rest := [.int (nI (d)), .ref (ad 10 15 0), .ref (ad 15 14 0)]) hc dX9_misses_52 (c_X9_numberOf hI zm (a := fa) (b := n_14) (by omega) (by omega)) ms_X9_63 (hn := rfl) (hst := rfl) (hw := Nat.le_of_ble_eq_true rfl) (hR := ⟨⟨rfl, rfl⟩, Nat.le_of_ble_eq_true rfl, Nat.le_of_ble_eq_true rfl⟩) (hnc := ⟨Nat.zero_le _, Nat.zero_le _⟩) (fun r_15 y_15 h_15 => ?_)
      obtain ⟨e_15, ey_15⟩ := h_15
      obtain rfl := ey_15.symm
      refine rm_calliV (As := [.ref (ad 10 15 0), .int (nI (d)), .int r_15]) (rest := []) hc dX9_misses_55 (c_X9_would hI zm (k := 10) (d := d) (by omega) (by omega) r_15 (by rw [hM.blk (by omega)]; exact hRS) mm (by omega) ((hM.at (by omega)).trans hw)) mv_X9_74 dm_14 rfl rfl (hn := rfl) (hst := rfl) (hw := Nat.le_of_ble_eq_true rfl) (hR := ⟨⟨rfl, rfl⟩, Nat.le_of_ble_eq_true rfl, Nat.le_of_ble_eq_true rfl⟩) (hnc := ⟨Nat.zero_le _, Nat.zero_le _⟩) (fun r_16 y_16 h_16 => ?_)
      obtain ⟨e_16, hM_16, -⟩ := h_16
      replace e_16 : r_16 = hrR x 10 d 10 (nu (nI fa) (nx (nI ((fb + i) % 10000)))) mm := by rw [e_16, e_15, hn_14, nx_mod]; exact hrR_blk (hM.blk (by omega))
      refine rm_if_ne (tgt := 65) hc dX9_misses_58 (by decide) (fun c_17 => ?_) (fun c_17 => ?_)
      · --
        have ho : ¬ hrR x 10 d 10 (nu (nI fa) (nx (nI ((fb + i) % 10000)))) mm = 0 := fun h => c_17 (e_16.trans h)
        refine rm_iconst (v := 0) hc dX9_misses_65 (by decide) ?_
        refine rm_istore (ls' := [(0, .ref (ad 15 14 0)), (1, .int (nI (j))), (2, .int (nI (d))), (3, .int (nI (i))), (4, .int 0)]) hc dX9_misses_66 (by decide) rfl ?_
        refine rm_iload_n hc dX9_misses_68 rfl rfl ?_
        refine rm_iload hc dX9_misses_69 rfl ?_
        refine rm_if_eq (tgt := 78) hc dX9_misses_71 (by decide) (fun _ => ?_) (fun h => absurd (by decide) h)
        refine rm_iconst (v := 0) hc dX9_misses_78 (by decide) ?_
        refine rm_iadd hc dX9_misses_79 (fun v_19 e_19 => ?_)
        obtain rfl : v_19 = (nI (i)) := e_19.trans (nadd (m := i) (n := 0) (by omega))
        clear e_19
        refine rm_istore_n (ls' := [(0, .ref (ad 15 14 0)), (1, .int (nI (j))), (2, .int (nI (d))), (3, .int (nI (i))), (4, .int 0)]) hc dX9_misses_80 rfl (by decide) rfl ?_
        refine rm_goto (tgt := 5) hc dX9_misses_81 (by decide) ?_
        refine rm_iload_n hc dX9_misses_5 rfl rfl ?_
        refine rm_bipush (v := 100) hc dX9_misses_6 (by decide) ?_
        refine rm_icmp_ge (tgt := 84) hc dX9_misses_8 (by decide) (fun h => absurd h (fun h2 => absurd ((nI_leI (a := 100) (b := i) (by omega) (by omega)).mp h2) (by omega))) (fun _ => ?_)
        refine rm_iload hc dX9_misses_11 rfl ?_
        refine rm_if_eq (tgt := 84) hc dX9_misses_13 (by decide) (fun _ => ?_) (fun h => absurd (by decide) h)
        refine rm_iload_n hc dX9_misses_84 rfl rfl ?_
        rcases Nat.eq_zero_or_pos i with hz0 | hz0
        · --
          rw [show nI i = 0 by rw [hz0]; rfl]
          refine rm_if_ne (tgt := 92) hc dX9_misses_85 (by decide) (fun h => absurd rfl h) (fun _ => ?_)
          refine rm_iconst (v := -1) hc dX9_misses_88 (by decide) ?_
          refine rm_goto (tgt := 95) hc dX9_misses_89 (by decide) ?_
          exact rm_iret hc dX9_misses_95 ⟨by rw [← hst, munK_n ho]; exact (if_pos hz0).symm, (hM.tr hM_16)⟩
        · --
          refine rm_if_ne (tgt := 92) hc dX9_misses_85 (by decide) (fun _ => ?_) (fun h => absurd h (fun h2 => absurd ((nI_eq (a := i) (b := 0) (by omega) (by omega)).mp h2) (by omega)))
          refine rm_iload_n hc dX9_misses_92 rfl rfl ?_
          refine rm_iconst (v := 1) hc dX9_misses_93 (by decide) ?_
          refine rm_isub hc dX9_misses_94 (fun v_23 e_23 => ?_)
          obtain rfl : v_23 = nI (i - 1) := e_23.trans (pk_sub (a := i) (b := 1) (by omega))
          exact rm_iret hc dX9_misses_95 ⟨by rw [← hst, munK_n ho]; exact (if_neg (by omega)).symm, (hM.tr hM_16)⟩
      · --
        have ho : hrR x 10 d 10 (nu (nI fa) (nx (nI ((fb + i) % 10000)))) mm = 0 := e_16.symm.trans c_17
        refine rm_iconst (v := 1) hc dX9_misses_61 (by decide) ?_
        refine rm_goto (tgt := 66) hc dX9_misses_62 (by decide) ?_
        refine rm_istore (ls' := [(0, .ref (ad 15 14 0)), (1, .int (nI (j))), (2, .int (nI (d))), (3, .int (nI (i))), (4, .int 1)]) hc dX9_misses_66 (by decide) rfl ?_
        refine rm_iload_n hc dX9_misses_68 rfl rfl ?_
        refine rm_iload hc dX9_misses_69 rfl ?_
        refine rm_if_eq (tgt := 78) hc dX9_misses_71 (by decide) (fun h => absurd h (by decide)) (fun _ => ?_)
        refine rm_iconst (v := 1) hc dX9_misses_74 (by decide) ?_
        refine rm_goto (tgt := 79) hc dX9_misses_75 (by decide) ?_
        refine rm_iadd hc dX9_misses_79 (fun v_25 e_25 => ?_)
        obtain rfl : v_25 = (nI (i + 1)) := e_25.trans (nadd (m := i) (n := 1) (by omega))
        clear e_25
        refine rm_istore_n (ls' := [(0, .ref (ad 15 14 0)), (1, .int (nI (j))), (2, .int (nI (d))), (3, .int (nI (i + 1))), (4, .int 1)]) hc dX9_misses_80 rfl (by decide) rfl ?_
        refine rm_goto (tgt := 5) hc dX9_misses_81 (by decide) ?_
        exact ih (i + 1) _ (by omega) (hM.tr hM_16) (by rw [← hst, munK_y ho, nx_mod])
  exact key5 100 0 _ (by omega) (M7.rf x) (by rw [hf4, hf5, Nat.add_zero, Nat.mod_eq_of_lt hfb])

set_option maxHeartbeats 4000000 in
set_option maxRecDepth 100000 in
theorem c_X9_unheard_1 {l : Launch} {D : va_G} {cy : Nat → ClassId} {ad : Ads} (hI : IJ ad) (x : Mem) (p0 p1 : Int32) (h0 : inM p0 0 3 = 0) : Cti l yX9_unheard cX9_unheard 3 (some .int) rm_X9_unheard D cy ad [.ref (ad 15 14 0), .int p0, .int p1] x (fun r y => r = 0 ∧ y = TF x 1) := by
  refine rm_entry (Qc := Qi D cy ad (fun r y => r = 0 ∧ y = TF x 1)) hI (by decide) (Nat.le_of_ble_eq_true rfl) ?_
  intro p e s m args below meth c hc
  show RM _ _ _ _ _ _ _ _ _ _ _ _ _ _ _ _ _ [(0, .ref (ad 15 14 0)), (1, .int p0), (2, .int p1)] []
  refine rm_aload_n hc dX9_unheard_0 rfl rfl ?_
  refine rm_iconst (v := 0) hc dX9_unheard_1 (by decide) ?_
  refine rm_put hc dX9_unheard_2 fl_X9_25 dm_14 rfl (Nat.le_of_ble_eq_true rfl) ft_9_6 rfl rfl so_14_6 (rm_nm (fun x_1 ex_1 => ?_))
  refine rm_iload_n hc dX9_unheard_5 rfl rfl ?_
  refine rm_calliS (As := [.int p0]) (rest := []) hc dX9_unheard_6 (c_X9_isFob hI x_1 p0) ms_X9_92 (hn := rfl) (hst := rfl) (hw := Nat.le_of_ble_eq_true rfl) (hR := ⟨⟨rfl, rfl⟩, Nat.le_of_ble_eq_true rfl, Nat.le_of_ble_eq_true rfl⟩) (hnc := ⟨Nat.zero_le _, Nat.zero_le _⟩) (fun r_2 y_2 h_2 => ?_)
  obtain ⟨e_2, ey_2⟩ := h_2
  obtain rfl := ey_2.symm
  obtain rfl : r_2 = 0 := e_2.trans h0
  refine rm_if_eq (tgt := 28) hc dX9_unheard_9 (by decide) (fun _ => ?_) (fun h => absurd (by decide) h)
  refine rm_aload_n hc dX9_unheard_28 rfl rfl ?_
  refine rm_iconst (v := 1) hc dX9_unheard_29 (by decide) ?_
  refine rm_calliV (As := [.int 1]) (rest := []) hc dX9_unheard_30 (c_X9_fails hI x_1 1) mv_X9_44 dm_14 rfl rfl (hn := rfl) (hst := rfl) (hw := Nat.le_of_ble_eq_true rfl) (hR := ⟨⟨rfl, rfl⟩, Nat.le_of_ble_eq_true rfl, Nat.le_of_ble_eq_true rfl⟩) (hnc := ⟨Nat.zero_le _, Nat.zero_le _⟩) (fun r_4 y_4 h_4 => ?_)
  obtain ⟨e_4, ey_4⟩ := h_4
  exact rm_iret hc dX9_unheard_33 ⟨e_4, by subst_vars; rfl⟩

set_option maxHeartbeats 4000000 in
set_option maxRecDepth 100000 in
theorem c_X9_unheard_2 {l : Launch} {D : va_G} {cy : Nat → ClassId} {ad : Ads} (hI : IJ ad) (x : Mem) (p0 p1 : Int32) (h1 : inM p0 0 3 = 1) (h0 : inM p1 0 2 = 0) : Cti l yX9_unheard cX9_unheard 3 (some .int) rm_X9_unheard D cy ad [.ref (ad 15 14 0), .int p0, .int p1] x (fun r y => r = 0 ∧ y = TF x 1) := by
  refine rm_entry (Qc := Qi D cy ad (fun r y => r = 0 ∧ y = TF x 1)) hI (by decide) (Nat.le_of_ble_eq_true rfl) ?_
  intro p e s m args below meth c hc
  show RM _ _ _ _ _ _ _ _ _ _ _ _ _ _ _ _ _ [(0, .ref (ad 15 14 0)), (1, .int p0), (2, .int p1)] []
  refine rm_aload_n hc dX9_unheard_0 rfl rfl ?_
  refine rm_iconst (v := 0) hc dX9_unheard_1 (by decide) ?_
  refine rm_put hc dX9_unheard_2 fl_X9_25 dm_14 rfl (Nat.le_of_ble_eq_true rfl) ft_9_6 rfl rfl so_14_6 (rm_nm (fun x_1 ex_1 => ?_))
  refine rm_iload_n hc dX9_unheard_5 rfl rfl ?_
  refine rm_calliS (As := [.int p0]) (rest := []) hc dX9_unheard_6 (c_X9_isFob hI x_1 p0) ms_X9_92 (hn := rfl) (hst := rfl) (hw := Nat.le_of_ble_eq_true rfl) (hR := ⟨⟨rfl, rfl⟩, Nat.le_of_ble_eq_true rfl, Nat.le_of_ble_eq_true rfl⟩) (hnc := ⟨Nat.zero_le _, Nat.zero_le _⟩) (fun r_2 y_2 h_2 => ?_)
  obtain ⟨e_2, ey_2⟩ := h_2
  obtain rfl := ey_2.symm
  obtain rfl : r_2 = 1 := e_2.trans h1
  refine rm_if_eq (tgt := 28) hc dX9_unheard_9 (by decide) (fun h => absurd h (by decide)) (fun _ => ?_)
  refine rm_iload_n hc dX9_unheard_12 rfl rfl ?_
  refine rm_calliS (As := [.int p1]) (rest := []) hc dX9_unheard_13 (c_X9_isDoor hI x_1 p1) ms_X9_33 (hn := rfl) (hst := rfl) (hw := Nat.le_of_ble_eq_true rfl) (hR := ⟨⟨rfl, rfl⟩, Nat.le_of_ble_eq_true rfl, Nat.le_of_ble_eq_true rfl⟩) (hnc := ⟨Nat.zero_le _, Nat.zero_le _⟩) (fun r_4 y_4 h_4 => ?_)
  obtain ⟨e_4, ey_4⟩ := h_4
  obtain rfl := ey_4.symm
  obtain rfl : r_4 = 0 := e_4.trans h0
  refine rm_if_eq (tgt := 28) hc dX9_unheard_16 (by decide) (fun _ => ?_) (fun h => absurd (by decide) h)
  refine rm_aload_n hc dX9_unheard_28 rfl rfl ?_
  refine rm_iconst (v := 1) hc dX9_unheard_29 (by decide) ?_
  refine rm_calliV (As := [.int 1]) (rest := []) hc dX9_unheard_30 (c_X9_fails hI x_1 1) mv_X9_44 dm_14 rfl rfl (hn := rfl) (hst := rfl) (hw := Nat.le_of_ble_eq_true rfl) (hR := ⟨⟨rfl, rfl⟩, Nat.le_of_ble_eq_true rfl, Nat.le_of_ble_eq_true rfl⟩) (hnc := ⟨Nat.zero_le _, Nat.zero_le _⟩) (fun r_6 y_6 h_6 => ?_)
  obtain ⟨e_6, ey_6⟩ := h_6
  exact rm_iret hc dX9_unheard_33 ⟨e_6, by subst_vars; rfl⟩

set_option maxHeartbeats 4000000 in
set_option maxRecDepth 100000 in
theorem c_X9_unheard_o {l : Launch} {D : va_G} {cy : Nat → ClassId} {ad : Ads} (hI : IJ ad) (x : Mem) {j d : Nat} (hj : j < 4) (hd3 : d < 3) (hRS : RS (x 10)) (mm : Nat) (hmm : mm ≤ 500) (hw : x 10 1 = nI mm) (hRF : RF (x 10)) : Cti l yX9_unheard cX9_unheard 3 (some .int) rm_X9_unheard D cy ad [.ref (ad 15 14 0), .int (nI (j)), .int (nI (d))] x (fun r y => r = munK (T0 x) 10 d (x 10 (14 + 4 * j)) mm 100 (x 10 (15 + 4 * j)) 0 ∧ M7 (T0 x) y) := by
  refine rm_entry (Qc := Qi D cy ad (fun r y => r = munK (T0 x) 10 d (x 10 (14 + 4 * j)) mm 100 (x 10 (15 + 4 * j)) 0 ∧ M7 (T0 x) y)) hI (by decide) (Nat.le_of_ble_eq_true rfl) ?_
  intro p e s m args below meth c hc
  show RM _ _ _ _ _ _ _ _ _ _ _ _ _ _ _ _ _ [(0, .ref (ad 15 14 0)), (1, .int (nI (j))), (2, .int (nI (d)))] []
  refine rm_aload_n hc dX9_unheard_0 rfl rfl ?_
  refine rm_iconst (v := 0) hc dX9_unheard_1 (by decide) ?_
  refine rm_put hc dX9_unheard_2 fl_X9_25 dm_14 rfl (Nat.le_of_ble_eq_true rfl) ft_9_6 rfl rfl so_14_6 (rm_nm (fun x_1 ex_1 => ?_))
  refine rm_iload_n hc dX9_unheard_5 rfl rfl ?_
  refine rm_calliS (As := [.int (nI (j))]) (rest := []) hc dX9_unheard_6 (c_X9_isFob hI x_1 (nI (j))) ms_X9_92 (hn := rfl) (hst := rfl) (hw := Nat.le_of_ble_eq_true rfl) (hR := ⟨⟨rfl, rfl⟩, Nat.le_of_ble_eq_true rfl, Nat.le_of_ble_eq_true rfl⟩) (hnc := ⟨Nat.zero_le _, Nat.zero_le _⟩) (fun r_2 y_2 h_2 => ?_)
  obtain ⟨e_2, ey_2⟩ := h_2
  obtain rfl := ey_2.symm
  obtain rfl : r_2 = 1 := e_2.trans (inN (n := 3) rfl (by omega) (by omega))
  refine rm_if_eq (tgt := 28) hc dX9_unheard_9 (by decide) (fun h => absurd h (by decide)) (fun _ => ?_)
  refine rm_iload_n hc dX9_unheard_12 rfl rfl ?_
  refine rm_calliS (As := [.int (nI (d))]) (rest := []) hc dX9_unheard_13 (c_X9_isDoor hI x_1 (nI (d))) ms_X9_33 (hn := rfl) (hst := rfl) (hw := Nat.le_of_ble_eq_true rfl) (hR := ⟨⟨rfl, rfl⟩, Nat.le_of_ble_eq_true rfl, Nat.le_of_ble_eq_true rfl⟩) (hnc := ⟨Nat.zero_le _, Nat.zero_le _⟩) (fun r_4 y_4 h_4 => ?_)
  obtain ⟨e_4, ey_4⟩ := h_4
  obtain rfl := ey_4.symm
  obtain rfl : r_4 = 1 := e_4.trans (inN (n := 2) rfl (by omega) (by omega))
  refine rm_if_eq (tgt := 28) hc dX9_unheard_16 (by decide) (fun h => absurd h (by decide)) (fun _ => ?_)
  refine rm_aload_n hc dX9_unheard_19 rfl rfl ?_
  refine rm_iload_n hc dX9_unheard_20 rfl rfl ?_
  refine rm_iload_n hc dX9_unheard_21 rfl rfl ?_
  refine rm_calliV (As := [.int (nI (j)), .int (nI (d))]) (rest := []) hc dX9_unheard_22 (c_X9_misses hI x_1 (j := j) (d := d) (by omega) (by omega) (by subst_vars; rw [T0_10']; exact hRS) mm (by omega) (by subst_vars; rw [T0_10']; exact hw) (by subst_vars; rw [T0_10']; exact hRF)) mv_X9_169 dm_14 rfl rfl (hn := rfl) (hst := rfl) (hw := Nat.le_of_ble_eq_true rfl) (hR := ⟨⟨rfl, rfl⟩, Nat.le_of_ble_eq_true rfl, Nat.le_of_ble_eq_true rfl⟩) (hnc := ⟨Nat.zero_le _, Nat.zero_le _⟩) (fun r_6 y_6 h_6 => ?_)
  obtain ⟨e_6, hM_6⟩ := h_6
  refine rm_goto (tgt := 33) hc dX9_unheard_25 (by decide) ?_
  exact rm_iret hc dX9_unheard_33 ⟨by rw [e_6]; subst_vars; rw [T0_10']; rfl, by subst_vars; exact hM_6⟩

set_option maxHeartbeats 4000000 in
set_option maxRecDepth 100000 in
theorem c_X9_first {l : Launch} {D : va_G} {cy : Nat → ClassId} {ad : Ads} (hI : IJ ad) (x : Mem) {d nr : Nat} (hd3 : d < 3) (hRS : RS (x 10)) (mm : Nat) (hmm : mm ≤ 500) (hw : x 10 1 = nI mm) (hnr : x 10 5 = nI nr) (hr8 : nr ≤ 8) : Cti l yX9_first cX9_first 3 (some .int) rm_X9_first D cy ad [.ref (ad 15 14 0), .int (nI (d))] x (fun r y => r = fusK x 10 d mm nr 0 ∧ M7 x y) := by
  refine rm_entry (Qc := Qi D cy ad (fun r y => r = fusK x 10 d mm nr 0 ∧ M7 x y)) hI (by decide) (Nat.le_of_ble_eq_true rfl) ?_
  intro p e s m args below meth c hc
  show RM _ _ _ _ _ _ _ _ _ _ _ _ _ _ _ _ _ [(0, .ref (ad 15 14 0)), (1, .int (nI (d)))] []
  refine rm_iconst (v := 0) hc dX9_first_0 (by decide) ?_
  refine rm_istore_n (ls' := [(0, .ref (ad 15 14 0)), (1, .int (nI (d))), (2, .int 0)]) hc dX9_first_1 rfl (by decide) rfl ?_
  have key2 : ∀ (f : Nat) (i : Nat) (zm : Mem), i + f = nr → M7 x zm → fusK x 10 d mm f i = fusK x 10 d mm nr 0 → RM p l e rm_X9_first s m args below meth c 3 (AA ad s.heap.size) (GG D cy ad zm) 0 0 (QQ (Qi D cy ad (fun r y => r = fusK x 10 d mm nr 0 ∧ M7 x y)) below args s ad) 2 [(0, .ref (ad 15 14 0)), (1, .int (nI (d))), (2, .int (nI (i)))] [] := by
    intro f
    induction f with
    | zero =>
      intro i zm hif hM hst
      refine rm_iload_n hc dX9_first_2 rfl rfl ?_
      refine rm_aload_n hc dX9_first_3 rfl rfl ?_
      refine rm_get hc dX9_first_4 fl_X9_7 dm_14 rfl rfl ?_
      refine rm_iconst (v := 5) hc dX9_first_7 (by decide) ?_
      refine rm_iald (i := 5) hc dX9_first_8 (dm_15 (by omega)) rfl (by omega) (by decide) rfl (fun v_1 e_1 => ?_)
      obtain rfl : v_1 = nI nr := e_1.trans ((hM.at (by omega)).trans hnr)
      refine rm_icmp_ge (tgt := 41) hc dX9_first_9 (by decide) (fun _ => ?_) (fun h => absurd ((nI_leI (a := nr) (b := i) (by omega) (by omega)).mpr (by omega)) h)
      refine rm_iconst (v := -1) hc dX9_first_41 (by decide) ?_
      exact rm_iret hc dX9_first_42 ⟨by rw [← hst]; rfl, hM⟩
    | succ f ih =>
      intro i zm hif hM hst
      refine rm_iload_n hc dX9_first_2 rfl rfl ?_
      refine rm_aload_n hc dX9_first_3 rfl rfl ?_
      refine rm_get hc dX9_first_4 fl_X9_7 dm_14 rfl rfl ?_
      refine rm_iconst (v := 5) hc dX9_first_7 (by decide) ?_
      refine rm_iald (i := 5) hc dX9_first_8 (dm_15 (by omega)) rfl (by omega) (by decide) rfl (fun v_3 e_3 => ?_)
      obtain rfl : v_3 = nI nr := e_3.trans ((hM.at (by omega)).trans hnr)
      refine rm_icmp_ge (tgt := 41) hc dX9_first_9 (by decide) (fun h => absurd h (fun h2 => absurd ((nI_leI (a := nr) (b := i) (by omega) (by omega)).mp h2) (by omega))) (fun _ => ?_)
      refine rm_aload_n hc dX9_first_12 rfl rfl ?_
      refine rm_aload_n hc dX9_first_13 rfl rfl ?_
      refine rm_get hc dX9_first_14 fl_X9_7 dm_14 rfl rfl ?_
      refine rm_iload_n hc dX9_first_17 rfl rfl ?_
      refine rm_aload_n hc dX9_first_18 rfl rfl ?_
      refine rm_get hc dX9_first_19 fl_X9_7 dm_14 rfl rfl ?_
      refine rm_bipush (v := 6) hc dX9_first_22 (by decide) ?_
      refine rm_iload_n hc dX9_first_24 rfl rfl ?_
      refine rm_iadd hc dX9_first_25 (fun v_5 e_5 => ?_)
      obtain rfl : v_5 = (nI (i + 6)) := e_5.trans (nadd (m := 6) (n := i) (by omega))
      clear e_5
      refine rm_iald (i := i + 6) hc dX9_first_26 (dm_15 (by omega)) rfl (by omega) (by decide) rfl (fun v_6 e_6 => ?_)
      refine rm_calliV (As := [.ref (ad 10 15 0), .int (nI (d)), .int v_6]) (rest := []) hc dX9_first_27 (c_X9_would hI zm (k := 10) (d := d) (by omega) (by omega) v_6 (by rw [hM.blk (by omega)]; exact hRS) mm (by omega) ((hM.at (by omega)).trans hw)) mv_X9_74 dm_14 rfl rfl (hn := rfl) (hst := rfl) (hw := Nat.le_of_ble_eq_true rfl) (hR := ⟨⟨rfl, rfl⟩, Nat.le_of_ble_eq_true rfl, Nat.le_of_ble_eq_true rfl⟩) (hnc := ⟨Nat.zero_le _, Nat.zero_le _⟩) (fun r_7 y_7 h_7 => ?_)
      obtain ⟨e_7, hM_7, -⟩ := h_7
      replace e_7 : r_7 = hrR x 10 d 10 (x 10 (6 + i)) mm := by rw [e_7, e_6, hM.at (by omega), Nat.add_comm i 6]; exact hrR_blk (hM.blk (by omega))
      refine rm_if_ne (tgt := 35) hc dX9_first_30 (by decide) (fun c_8 => ?_) (fun c_8 => ?_)
      · --
        have ho : ¬ hrR x 10 d 10 (x 10 (6 + i)) mm = 0 := fun h => c_8 (e_7.trans h)
        refine rm_iinc (v := (nI (i + 1))) (ls' := [(0, .ref (ad 15 14 0)), (1, .int (nI (d))), (2, .int (nI (i + 1)))]) hc dX9_first_35 rfl (nIj (by omega)) (by decide) rfl ?_
        refine rm_goto (tgt := 2) hc dX9_first_38 (by decide) ?_
        exact ih (i + 1) _ (by omega) (hM.tr hM_7) (by rw [← hst, fusK_n ho])
      · --
        have ho : hrR x 10 d 10 (x 10 (6 + i)) mm = 0 := e_7.symm.trans c_8
        refine rm_iload_n hc dX9_first_33 rfl rfl ?_
        exact rm_iret hc dX9_first_34 ⟨by rw [← hst, fusK_y ho], hM.tr hM_7⟩
  exact key2 nr 0 _ (by omega) (M7.rf x) rfl

set_option maxHeartbeats 4000000 in
set_option maxRecDepth 100000 in
theorem c_X9_useful_1 {l : Launch} {D : va_G} {cy : Nat → ClassId} {ad : Ads} (hI : IJ ad) (x : Mem) (p0 : Int32) (h0 : inM p0 0 2 = 0) : Cti l yX9_useful cX9_useful 2 (some .int) rm_X9_useful D cy ad [.ref (ad 15 14 0), .int p0] x (fun r y => r = 0 ∧ y = TF x 1) := by
  refine rm_entry (Qc := Qi D cy ad (fun r y => r = 0 ∧ y = TF x 1)) hI (by decide) (Nat.le_of_ble_eq_true rfl) ?_
  intro p e s m args below meth c hc
  show RM _ _ _ _ _ _ _ _ _ _ _ _ _ _ _ _ _ [(0, .ref (ad 15 14 0)), (1, .int p0)] []
  refine rm_aload_n hc dX9_useful_0 rfl rfl ?_
  refine rm_iconst (v := 0) hc dX9_useful_1 (by decide) ?_
  refine rm_put hc dX9_useful_2 fl_X9_25 dm_14 rfl (Nat.le_of_ble_eq_true rfl) ft_9_6 rfl rfl so_14_6 (rm_nm (fun x_1 ex_1 => ?_))
  refine rm_iload_n hc dX9_useful_5 rfl rfl ?_
  refine rm_calliS (As := [.int p0]) (rest := []) hc dX9_useful_6 (c_X9_isDoor hI x_1 p0) ms_X9_33 (hn := rfl) (hst := rfl) (hw := Nat.le_of_ble_eq_true rfl) (hR := ⟨⟨rfl, rfl⟩, Nat.le_of_ble_eq_true rfl, Nat.le_of_ble_eq_true rfl⟩) (hnc := ⟨Nat.zero_le _, Nat.zero_le _⟩) (fun r_2 y_2 h_2 => ?_)
  obtain ⟨e_2, ey_2⟩ := h_2
  obtain rfl := ey_2.symm
  obtain rfl : r_2 = 0 := e_2.trans h0
  refine rm_if_eq (tgt := 20) hc dX9_useful_9 (by decide) (fun _ => ?_) (fun h => absurd (by decide) h)
  refine rm_aload_n hc dX9_useful_20 rfl rfl ?_
  refine rm_iconst (v := 1) hc dX9_useful_21 (by decide) ?_
  refine rm_calliV (As := [.int 1]) (rest := []) hc dX9_useful_22 (c_X9_fails hI x_1 1) mv_X9_44 dm_14 rfl rfl (hn := rfl) (hst := rfl) (hw := Nat.le_of_ble_eq_true rfl) (hR := ⟨⟨rfl, rfl⟩, Nat.le_of_ble_eq_true rfl, Nat.le_of_ble_eq_true rfl⟩) (hnc := ⟨Nat.zero_le _, Nat.zero_le _⟩) (fun r_4 y_4 h_4 => ?_)
  obtain ⟨e_4, ey_4⟩ := h_4
  exact rm_iret hc dX9_useful_25 ⟨e_4, by subst_vars; rfl⟩

set_option maxHeartbeats 4000000 in
set_option maxRecDepth 100000 in
theorem c_X9_useful_o {l : Launch} {D : va_G} {cy : Nat → ClassId} {ad : Ads} (hI : IJ ad) (x : Mem) {d nr : Nat} (hd3 : d < 3) (hRS : RS (x 10)) (mm : Nat) (hmm : mm ≤ 500) (hw : x 10 1 = nI mm) (hnr : x 10 5 = nI nr) (hr8 : nr ≤ 8) : Cti l yX9_useful cX9_useful 2 (some .int) rm_X9_useful D cy ad [.ref (ad 15 14 0), .int (nI (d))] x (fun r y => r = fusK (T0 x) 10 d mm nr 0 ∧ M7 (T0 x) y) := by
  refine rm_entry (Qc := Qi D cy ad (fun r y => r = fusK (T0 x) 10 d mm nr 0 ∧ M7 (T0 x) y)) hI (by decide) (Nat.le_of_ble_eq_true rfl) ?_
  intro p e s m args below meth c hc
  show RM _ _ _ _ _ _ _ _ _ _ _ _ _ _ _ _ _ [(0, .ref (ad 15 14 0)), (1, .int (nI (d)))] []
  refine rm_aload_n hc dX9_useful_0 rfl rfl ?_
  refine rm_iconst (v := 0) hc dX9_useful_1 (by decide) ?_
  refine rm_put hc dX9_useful_2 fl_X9_25 dm_14 rfl (Nat.le_of_ble_eq_true rfl) ft_9_6 rfl rfl so_14_6 (rm_nm (fun x_1 ex_1 => ?_))
  refine rm_iload_n hc dX9_useful_5 rfl rfl ?_
  refine rm_calliS (As := [.int (nI (d))]) (rest := []) hc dX9_useful_6 (c_X9_isDoor hI x_1 (nI (d))) ms_X9_33 (hn := rfl) (hst := rfl) (hw := Nat.le_of_ble_eq_true rfl) (hR := ⟨⟨rfl, rfl⟩, Nat.le_of_ble_eq_true rfl, Nat.le_of_ble_eq_true rfl⟩) (hnc := ⟨Nat.zero_le _, Nat.zero_le _⟩) (fun r_2 y_2 h_2 => ?_)
  obtain ⟨e_2, ey_2⟩ := h_2
  obtain rfl := ey_2.symm
  obtain rfl : r_2 = 1 := e_2.trans (inN (n := 2) rfl (by omega) (by omega))
  refine rm_if_eq (tgt := 20) hc dX9_useful_9 (by decide) (fun h => absurd h (by decide)) (fun _ => ?_)
  refine rm_aload_n hc dX9_useful_12 rfl rfl ?_
  refine rm_iload_n hc dX9_useful_13 rfl rfl ?_
  refine rm_calliV (As := [.int (nI (d))]) (rest := []) hc dX9_useful_14 (c_X9_first hI x_1 (d := d) (nr := nr) (by omega) (by subst_vars; rw [T0_10']; exact hRS) mm (by omega) (by subst_vars; rw [T0_10']; exact hw) (by subst_vars; rw [T0_10']; exact hnr) (by omega)) mv_X9_172 dm_14 rfl rfl (hn := rfl) (hst := rfl) (hw := Nat.le_of_ble_eq_true rfl) (hR := ⟨⟨rfl, rfl⟩, Nat.le_of_ble_eq_true rfl, Nat.le_of_ble_eq_true rfl⟩) (hnc := ⟨Nat.zero_le _, Nat.zero_le _⟩) (fun r_4 y_4 h_4 => ?_)
  obtain ⟨e_4, hM_4⟩ := h_4
  refine rm_goto (tgt := 25) hc dX9_useful_17 (by decide) ?_
  exact rm_iret hc dX9_useful_25 ⟨by rw [e_4]; subst_vars; rfl, by subst_vars; exact hM_4⟩
