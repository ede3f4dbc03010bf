theorem cpn_3 {x : Mem} {k k2 o o2 : Nat} (h : k2 ≠ k) : (up (up (up x k o (x k2 o2)) k (o + 1) ((up x k o (x k2 o2)) k2 (o2 + 1))) k (o + 2) ((up (up x k o (x k2 o2)) k (o + 1) ((up x k o (x k2 o2)) k2 (o2 + 1))) k2 (o2 + 2))) = cpS x k o k2 o2 3 := by
  simp only [up_b _ _ _ h]
  rw [cpS_1]
  rw [cpS_up h]
  rw [cpS_up h]

theorem cpn_4 {x : Mem} {k k2 o o2 : Nat} (h : k2 ≠ k) : (up (up (up (up x k o (x k2 o2)) k (o + 1) ((up x k o (x k2 o2)) k2 (o2 + 1))) k (o + 2) ((up (up x k o (x k2 o2)) k (o + 1) ((up x k o (x k2 o2)) k2 (o2 + 1))) k2 (o2 + 2))) k (o + 3) ((up (up (up x k o (x k2 o2)) k (o + 1) ((up x k o (x k2 o2)) k2 (o2 + 1))) k (o + 2) ((up (up x k o (x k2 o2)) k (o + 1) ((up x k o (x k2 o2)) k2 (o2 + 1))) k2 (o2 + 2))) k2 (o2 + 3))) = cpS x k o k2 o2 4 := by
  simp only [up_b _ _ _ h]
  rw [cpS_1]
  rw [cpS_up h]
  rw [cpS_up h]
  rw [cpS_up h]

abbrev rm_X8_counterBehind : Room := { frames := 0, cells := 0, slots := 0, locals := 0 }
set_option maxHeartbeats 4000000 in
set_option maxRecDepth 100000 in
theorem c_X8_counterBehind {l : Launch} {D : va_G} {cy : Nat → ClassId} {ad : Ads} (hI : IJ ad) (x : Mem) (a : Int32) : Cti l yX8_counterBehind cX8_counterBehind 1 (some .int) rm_X8_counterBehind D cy ad [.int a] x (fun r y => r = nx a ∧ y = x) := by
  refine rm_entry (Qc := Qi D cy ad (fun r y => r = nx a ∧ y = x)) hI (by decide) (Nat.le_of_ble_eq_true rfl) ?_
  intro p e s m args below meth c hc
  show RM _ _ _ _ _ _ _ _ _ _ _ _ _ _ _ _ _ [(0, .int a)] []
  refine rm_iload_n hc dX8_counterBehind_0 rfl rfl ?_
  refine rm_sipush (v := 9999) hc dX8_counterBehind_1 (by decide) ?_
  refine rm_icmp_ge (tgt := 13) hc dX8_counterBehind_4 (by decide) (fun c_1 => ?_) (fun c_1 => ?_)
  · --T
    refine rm_iconst (v := 0) hc dX8_counterBehind_13 (by decide) ?_
    exact rm_iret hc dX8_counterBehind_14 ⟨by subst_vars; simp [nx, *], rfl⟩
  · --F
    refine rm_iload_n hc dX8_counterBehind_7 rfl rfl ?_
    refine rm_iconst (v := 1) hc dX8_counterBehind_8 (by decide) ?_
    refine rm_iadd hc dX8_counterBehind_9 (fun v_2 e_2 => ?_)
    refine rm_goto (tgt := 14) hc dX8_counterBehind_10 (by decide) ?_
    exact rm_iret hc dX8_counterBehind_14 ⟨by subst_vars; simp [nx, *], rfl⟩

abbrev rm_X8_numberOf : Room := { frames := 0, cells := 0, slots := 0, locals := 0 }
set_option maxHeartbeats 4000000 in
set_option maxRecDepth 100000 in
theorem c_X8_numberOf {l : Launch} {D : va_G} {cy : Nat → ClassId} {ad : Ads} (hI : IJ ad) (x : Mem) (a b : Int32) : Cti l yX8_numberOf cX8_numberOf 2 (some .int) rm_X8_numberOf D cy ad [.int a, .int b] x (fun r y => r = nu a b ∧ y = x) := by
  refine rm_entry (Qc := Qi D cy ad (fun r y => r = nu a b ∧ y = x)) hI (by decide) (Nat.le_of_ble_eq_true rfl) ?_
  intro p e s m args below meth c hc
  show RM _ _ _ _ _ _ _ _ _ _ _ _ _ _ _ _ _ [(0, .int a), (1, .int b)] []
  refine rm_iload_n hc dX8_numberOf_0 rfl rfl ?_
  refine rm_ldc hc dX8_numberOf_1 kc_X8_230 ?_
  refine rm_imul hc dX8_numberOf_3 (fun v_1 e_1 => ?_)
  refine rm_iload_n hc dX8_numberOf_4 rfl rfl ?_
  refine rm_sipush (v := 7919) hc dX8_numberOf_5 (by decide) ?_
  refine rm_imul hc dX8_numberOf_8 (fun v_2 e_2 => ?_)
  refine rm_iadd hc dX8_numberOf_9 (fun v_3 e_3 => ?_)
  refine rm_iload_n hc dX8_numberOf_10 rfl rfl ?_
  refine rm_bipush (v := 31) hc dX8_numberOf_11 (by decide) ?_
  refine rm_imul hc dX8_numberOf_13 (fun v_4 e_4 => ?_)
  refine rm_iload_n hc dX8_numberOf_14 rfl rfl ?_
  refine rm_iadd hc dX8_numberOf_15 (fun v_5 e_5 => ?_)
  refine rm_ixor hc dX8_numberOf_16 (fun v_6 e_6 => ?_)
  refine rm_ldc hc dX8_numberOf_17 kc_X8_178 ?_
  refine rm_iand hc dX8_numberOf_19 (fun v_7 e_7 => ?_)
  exact rm_iret hc dX8_numberOf_20 ⟨by subst_vars; rfl, rfl⟩


abbrev rm_X2_sendNext : Room := { frames := 1, cells := 0, slots := 0, locals := 21 }
set_option maxHeartbeats 4000000 in
set_option maxRecDepth 100000 in
theorem c_X2_sendNext {l : Launch} {D : va_G} {cy : Nat → ClassId} {ad : Ads} (hI : IJ ad) (x : Mem) {k j : Nat} (hk : k < 7) (hj : j < 4) : Cti l yX2_sendNext cX2_sendNext 1 (some .int) rm_X2_sendNext D cy ad [.ref (ad k 2 j)] x (fun r y => r = nu (x k (14 + 4 * j)) (nx (x k (15 + 4 * j))) ∧ y = sndF x k j) := by
  refine rm_entry (Qc := Qi D cy ad (fun r y => r = nu (x k (14 + 4 * j)) (nx (x k (15 + 4 * j))) ∧ y = sndF x k j)) hI (by decide) (Nat.le_of_ble_eq_true rfl) ?_
  intro p e s m args below meth c hc
  show RM _ _ _ _ _ _ _ _ _ _ _ _ _ _ _ _ _ [(0, .ref (ad k 2 j))] []
  refine rm_aload_n hc dX2_sendNext_0 rfl rfl ?_
  refine rm_dup hc dX2_sendNext_1 rfl ?_
  refine rm_geti hc dX2_sendNext_2 fl_X2_15 (dm_2 (by omega) (by omega)) rfl rfl (fun v_1 e_1 => ?_)
  refine rm_iconst (v := 1) hc dX2_sendNext_5 (by decide) ?_
  refine rm_isub hc dX2_sendNext_6 (fun v_2 e_2 => ?_)
  refine rm_put hc dX2_sendNext_7 fl_X2_15 (dm_2 (by omega) (by omega)) rfl (Nat.le_of_ble_eq_true rfl) ft_2_2 rfl rfl (so_2_2 (by omega) (by omega)) (rm_nm (fun x_3 ex_3 => ?_))
  refine rm_aload_n hc dX2_sendNext_10 rfl rfl ?_
  refine rm_dup hc dX2_sendNext_11 rfl ?_
  refine rm_geti hc dX2_sendNext_12 fl_X2_21 (dm_2 (by omega) (by omega)) rfl rfl (fun v_4 e_4 => ?_)
  refine rm_iconst (v := 1) hc dX2_sendNext_15 (by decide) ?_
  refine rm_iadd hc dX2_sendNext_16 (fun v_5 e_5 => ?_)
  refine rm_put hc dX2_sendNext_17 fl_X2_21 (dm_2 (by omega) (by omega)) rfl (Nat.le_of_ble_eq_true rfl) ft_2_3 rfl rfl (so_2_3 (by omega) (by omega)) (rm_nm (fun x_6 ex_6 => ?_))
  refine rm_aload_n hc dX2_sendNext_20 rfl rfl ?_
  refine rm_aload_n hc dX2_sendNext_21 rfl rfl ?_
  refine rm_geti hc dX2_sendNext_22 fl_X2_18 (dm_2 (by omega) (by omega)) rfl rfl (fun v_7 e_7 => ?_)
  refine rm_calliN (As := [.int v_7]) (rest := [.ref (ad k 2 j)]) hc dX2_sendNext_25 (c_X8_counterBehind hI x_6 v_7) mn_X2_24 (hn := rfl) (hst := rfl) (hw := Nat.le_of_ble_eq_true rfl) (hR := ⟨⟨rfl, rfl⟩, Nat.le_of_ble_eq_true rfl, Nat.le_of_ble_eq_true rfl⟩) (hnc := ⟨Nat.zero_le _, Nat.zero_le _⟩) (fun r_8 y_8 h_8 => ?_)
  obtain ⟨e_8, ey_8⟩ := h_8
  obtain rfl := ey_8.symm
  refine rm_put hc dX2_sendNext_28 fl_X2_18 (dm_2 (by omega) (by omega)) rfl (Nat.le_of_ble_eq_true rfl) ft_2_1 rfl rfl (so_2_1 (by omega) (by omega)) (rm_nm (fun x_9 ex_9 => ?_))
  refine rm_aload_n hc dX2_sendNext_31 rfl rfl ?_
  refine rm_geti hc dX2_sendNext_32 fl_X2_9 (dm_2 (by omega) (by omega)) rfl rfl (fun v_10 e_10 => ?_)
  refine rm_aload_n hc dX2_sendNext_35 rfl rfl ?_
  refine rm_geti hc dX2_sendNext_36 fl_X2_18 (dm_2 (by omega) (by omega)) rfl rfl (fun v_11 e_11 => ?_)
  refine rm_calliN (As := [.int v_10, .int v_11]) (rest := []) hc dX2_sendNext_39 (c_X8_numberOf hI x_9 v_10 v_11) mn_X2_28 (hn := rfl) (hst := rfl) (hw := Nat.le_of_ble_eq_true rfl) (hR := ⟨⟨rfl, rfl⟩, Nat.le_of_ble_eq_true rfl, Nat.le_of_ble_eq_true rfl⟩) (hnc := ⟨Nat.zero_le _, Nat.zero_le _⟩) (fun r_12 y_12 h_12 => ?_)
  obtain ⟨e_12, ey_12⟩ := h_12
  obtain rfl := ey_12.symm
  exact rm_iret hc dX2_sendNext_42 ⟨by subst_vars; simp [up], by subst_vars; simp [sndF, up]⟩

abbrev rm_X2_look : Room := { frames := 1, cells := 0, slots := 0, locals := 21 }
set_option maxHeartbeats 4000000 in
set_option maxRecDepth 100000 in
theorem c_X2_look {l : Launch} {D : va_G} {cy : Nat → ClassId} {ad : Ads} (hI : IJ ad) (x : Mem) {k j : Nat} (hk : k < 7) (hj : j < 4) (w : Int32) : Cti l yX2_look cX2_look 2 (some .int) rm_X2_look D cy ad [.ref (ad k 2 j), .int w] x (fun r y => r = lookFob x k j w ∧ y = x) := by
  refine rm_entry (Qc := Qi D cy ad (fun r y => r = lookFob x k j w ∧ y = x)) hI (by decide) (Nat.le_of_ble_eq_true rfl) ?_
  intro p e s m args below meth c hc
  show RM _ _ _ _ _ _ _ _ _ _ _ _ _ _ _ _ _ [(0, .ref (ad k 2 j)), (1, .int w)] []
  refine rm_iload_n hc dX2_look_0 rfl rfl ?_
  by_cases z_1 : w = 0
  · --case 0
    subst z_1
    refine rm_tin (off := 35) (tgt := 36) hc dX2_look_1 (by decide) (by decide) (by decide) (by decide) ?_
    refine rm_aload_n hc dX2_look_36 rfl rfl ?_
    refine rm_geti hc dX2_look_37 fl_X2_9 (dm_2 (by omega) (by omega)) rfl rfl (fun v_2 e_2 => ?_)
    exact rm_iret hc dX2_look_40 ⟨by subst_vars; simp [lookFob, *], rfl⟩
  by_cases z_3 : w = 1
  · --case 1
    subst z_3
    refine rm_tin (off := 40) (tgt := 41) hc dX2_look_1 (by decide) (by decide) (by decide) (by decide) ?_
    refine rm_aload_n hc dX2_look_41 rfl rfl ?_
    refine rm_geti hc dX2_look_42 fl_X2_18 (dm_2 (by omega) (by omega)) rfl rfl (fun v_4 e_4 => ?_)
    exact rm_iret hc dX2_look_45 ⟨by subst_vars; simp [lookFob, *], rfl⟩
  by_cases z_5 : w = 2
  · --case 2
    subst z_5
    refine rm_tin (off := 45) (tgt := 46) hc dX2_look_1 (by decide) (by decide) (by decide) (by decide) ?_
    refine rm_aload_n hc dX2_look_46 rfl rfl ?_
    refine rm_geti hc dX2_look_47 fl_X2_15 (dm_2 (by omega) (by omega)) rfl rfl (fun v_6 e_6 => ?_)
    exact rm_iret hc dX2_look_50 ⟨by subst_vars; simp [lookFob, *], rfl⟩
  by_cases z_7 : w = 3
  · --case 3
    subst z_7
    refine rm_tin (off := 50) (tgt := 51) hc dX2_look_1 (by decide) (by decide) (by decide) (by decide) ?_
    refine rm_aload_n hc dX2_look_51 rfl rfl ?_
    refine rm_geti hc dX2_look_52 fl_X2_9 (dm_2 (by omega) (by omega)) rfl rfl (fun v_8 e_8 => ?_)
    refine rm_aload_n hc dX2_look_55 rfl rfl ?_
    refine rm_geti hc dX2_look_56 fl_X2_18 (dm_2 (by omega) (by omega)) rfl rfl (fun v_9 e_9 => ?_)
    refine rm_calliN (As := [.int v_9]) (rest := [.int v_8]) hc dX2_look_59 (c_X8_counterBehind hI x v_9) mn_X2_24 (hn := rfl) (hst := rfl) (hw := Nat.le_of_ble_eq_true rfl) (hR := ⟨⟨rfl, rfl⟩, Nat.le_of_ble_eq_true rfl, Nat.le_of_ble_eq_true rfl⟩) (hnc := ⟨Nat.zero_le _, Nat.zero_le _⟩) (fun r_10 y_10 h_10 => ?_)
    obtain ⟨e_10, ey_10⟩ := h_10
    obtain rfl := ey_10.symm
    refine rm_calliN (As := [.int v_8, .int r_10]) (rest := []) hc dX2_look_62 (c_X8_numberOf hI x v_8 r_10) mn_X2_28 (hn := rfl) (hst := rfl) (hw := Nat.le_of_ble_eq_true rfl) (hR := ⟨⟨rfl, rfl⟩, Nat.le_of_ble_eq_true rfl, Nat.le_of_ble_eq_true rfl⟩) (hnc := ⟨Nat.zero_le _, Nat.zero_le _⟩) (fun r_11 y_11 h_11 => ?_)
    obtain ⟨e_11, ey_11⟩ := h_11
    obtain rfl := ey_11.symm
    exact rm_iret hc dX2_look_65 ⟨by subst_vars; simp [lookFob, *], rfl⟩
  by_cases z_12 : w = 4
  · --case 4
    subst z_12
    refine rm_tin (off := 65) (tgt := 66) hc dX2_look_1 (by decide) (by decide) (by decide) (by decide) ?_
    refine rm_aload_n hc dX2_look_66 rfl rfl ?_
    refine rm_geti hc dX2_look_67 fl_X2_21 (dm_2 (by omega) (by omega)) rfl rfl (fun v_13 e_13 => ?_)
    exact rm_iret hc dX2_look_70 ⟨by subst_vars; simp [lookFob, *], rfl⟩
  refine rm_tout (tgt := 71) hc dX2_look_1 (by have zz0 := lv_neT (k := 0) (a := 0) z_1 (by decide); have zz1 := lv_neT (k := 1) (a := 1) z_3 (by decide); have zz2 := lv_neT (k := 2) (a := 2) z_5 (by decide); have zz3 := lv_neT (k := 3) (a := 3) z_7 (by decide); have zz4 := lv_neT (k := 4) (a := 4) z_12 (by decide); omega) (by decide) ?_
  refine rm_iconst (v := -1) hc dX2_look_71 (by decide) ?_
  exact rm_iret hc dX2_look_72 ⟨by subst_vars; simp [lookFob, *], rfl⟩

abbrev rm_X2_copyFrom : Room := { frames := 0, cells := 0, slots := 0, locals := 0 }
set_option maxHeartbeats 4000000 in
set_option maxRecDepth 100000 in
theorem c_X2_copyFrom {l : Launch} {D : va_G} {cy : Nat → ClassId} {ad : Ads} (hI : IJ ad) (x : Mem) {k j k2 : Nat} (hk : k < 7) (hj : j < 4) (hk2 : k2 < 7) (hkk : k2 ≠ k) : Ctv l yX2_copyFrom cX2_copyFrom 2 none rm_X2_copyFrom D cy ad [.ref (ad k 2 j), .ref (ad k2 2 j)] x (fun y => y = cpS x k (14 + 4 * j) k2 (14 + 4 * j) 4) := by
  refine rm_entry (Qc := Qv D cy ad (fun y => y = cpS x k (14 + 4 * j) k2 (14 + 4 * j) 4)) hI (by decide) (Nat.le_of_ble_eq_true rfl) ?_
  intro p e s m args below meth c hc
  show RM _ _ _ _ _ _ _ _ _ _ _ _ _ _ _ _ _ [(0, .ref (ad k 2 j)), (1, .ref (ad k2 2 j))] []
  refine rm_aload_n hc dX2_copyFrom_0 rfl rfl ?_
  refine rm_aload_n hc dX2_copyFrom_1 rfl rfl ?_
  refine rm_geti hc dX2_copyFrom_2 fl_X2_9 (dm_2 (by omega) (by omega)) rfl rfl (fun v_1 e_1 => ?_)
  refine rm_put hc dX2_copyFrom_5 fl_X2_9 (dm_2 (by omega) (by omega)) rfl (Nat.le_of_ble_eq_true rfl) ft_2_0 rfl rfl (so_2_0 (by omega) (by omega)) (rm_nm (fun x_2 ex_2 => ?_))
  refine rm_aload_n hc dX2_copyFrom_8 rfl rfl ?_
  refine rm_aload_n hc dX2_copyFrom_9 rfl rfl ?_
  refine rm_geti hc dX2_copyFrom_10 fl_X2_18 (dm_2 (by omega) (by omega)) rfl rfl (fun v_3 e_3 => ?_)
  refine rm_put hc dX2_copyFrom_13 fl_X2_18 (dm_2 (by omega) (by omega)) rfl (Nat.le_of_ble_eq_true rfl) ft_2_1 rfl rfl (so_2_1 (by omega) (by omega)) (rm_nm (fun x_4 ex_4 => ?_))
  refine rm_aload_n hc dX2_copyFrom_16 rfl rfl ?_
  refine rm_aload_n hc dX2_copyFrom_17 rfl rfl ?_
  refine rm_geti hc dX2_copyFrom_18 fl_X2_15 (dm_2 (by omega) (by omega)) rfl rfl (fun v_5 e_5 => ?_)
  refine rm_put hc dX2_copyFrom_21 fl_X2_15 (dm_2 (by omega) (by omega)) rfl (Nat.le_of_ble_eq_true rfl) ft_2_2 rfl rfl (so_2_2 (by omega) (by omega)) (rm_nm (fun x_6 ex_6 => ?_))
  refine rm_aload_n hc dX2_copyFrom_24 rfl rfl ?_
  refine rm_aload_n hc dX2_copyFrom_25 rfl rfl ?_
  refine rm_geti hc dX2_copyFrom_26 fl_X2_21 (dm_2 (by omega) (by omega)) rfl rfl (fun v_7 e_7 => ?_)
  refine rm_put hc dX2_copyFrom_29 fl_X2_21 (dm_2 (by omega) (by omega)) rfl (Nat.le_of_ble_eq_true rfl) ft_2_3 rfl rfl (so_2_3 (by omega) (by omega)) (rm_nm (fun x_8 ex_8 => ?_))
  exact rm_vret hc dX2_copyFrom_32 (by subst_vars; rw [show 15 + 4 * j = 14 + 4 * j + 1 by omega, show 16 + 4 * j = 14 + 4 * j + 2 by omega, show 17 + 4 * j = 14 + 4 * j + 3 by omega]; exact cpn_4 hkk)

abbrev rm_X5_copyFrom : Room := { frames := 0, cells := 0, slots := 0, locals := 0 }
set_option maxHeartbeats 4000000 in
set_option maxRecDepth 100000 in
theorem c_X5_copyFrom {l : Launch} {D : va_G} {cy : Nat → ClassId} {ad : Ads} (hI : IJ ad) (x : Mem) {k d s0 k2 d2 : Nat} (hk : k < 8) (hd3 : d < 3) (hs : s0 < 4) (hkd : k = 7 → d = 0) (hk2 : k2 < 8) (hd2 : d2 < 3) (hkd2 : k2 = 7 → d2 = 0) (hkk : k2 ≠ k) (hfl : isFlag (x k2 (36 + 22 * d2 + 4 * s0))) : Ctv l yX5_copyFrom cX5_copyFrom 2 none rm_X5_copyFrom D cy ad [.ref (ad k (d + 20) s0), .ref (ad k2 (d2 + 20) s0)] x (fun y => y = cpS x k (36 + 22 * d + 4 * s0) k2 (36 + 22 * d2 + 4 * s0) 4) := by
  refine rm_entry (Qc := Qv D cy ad (fun y => y = cpS x k (36 + 22 * d + 4 * s0) k2 (36 + 22 * d2 + 4 * s0) 4)) hI (by decide) (Nat.le_of_ble_eq_true rfl) ?_
  intro p e s m args below meth c hc
  show RM _ _ _ _ _ _ _ _ _ _ _ _ _ _ _ _ _ [(0, .ref (ad k (d + 20) s0)), (1, .ref (ad k2 (d2 + 20) s0))] []
  refine rm_aload_n hc dX5_copyFrom_0 rfl rfl ?_
  refine rm_aload_n hc dX5_copyFrom_1 rfl rfl ?_
  refine rm_geti hc dX5_copyFrom_2 fl_X5_21 (dm_s (d := d2) (by omega) (by omega) (by omega) (by omega)) rfl rfl (fun v_1 e_1 => ?_)
  refine rm_put hc dX5_copyFrom_5 fl_X5_21 (dm_s (d := d) (by omega) (by omega) (by omega) (by omega)) rfl (Nat.le_of_ble_eq_true rfl) ft_5_0 (nrb (by rw [e_1]; exact hfl)) (ftb (by rw [e_1]; exact hfl)) (so_s_0 (d := d) (by omega) (by omega) (by omega)) (rm_nm (fun x_2 ex_2 => ?_))
  refine rm_aload_n hc dX5_copyFrom_8 rfl rfl ?_
  refine rm_aload_n hc dX5_copyFrom_9 rfl rfl ?_
  refine rm_geti hc dX5_copyFrom_10 fl_X5_9 (dm_s (d := d2) (by omega) (by omega) (by omega) (by omega)) rfl rfl (fun v_3 e_3 => ?_)
  refine rm_put hc dX5_copyFrom_13 fl_X5_9 (dm_s (d := d) (by omega) (by omega) (by omega) (by omega)) rfl (Nat.le_of_ble_eq_true rfl) ft_5_1 rfl rfl (so_s_1 (d := d) (by omega) (by omega) (by omega)) (rm_nm (fun x_4 ex_4 => ?_))
  refine rm_aload_n hc dX5_copyFrom_16 rfl rfl ?_
  refine rm_aload_n hc dX5_copyFrom_17 rfl rfl ?_
  refine rm_geti hc dX5_copyFrom_18 fl_X5_15 (dm_s (d := d2) (by omega) (by omega) (by omega) (by omega)) rfl rfl (fun v_5 e_5 => ?_)
  refine rm_put hc dX5_copyFrom_21 fl_X5_15 (dm_s (d := d) (by omega) (by omega) (by omega) (by omega)) rfl (Nat.le_of_ble_eq_true rfl) ft_5_2 rfl rfl (so_s_2 (d := d) (by omega) (by omega) (by omega)) (rm_nm (fun x_6 ex_6 => ?_))
  refine rm_aload_n hc dX5_copyFrom_24 rfl rfl ?_
  refine rm_aload_n hc dX5_copyFrom_25 rfl rfl ?_
  refine rm_geti hc dX5_copyFrom_26 fl_X5_18 (dm_s (d := d2) (by omega) (by omega) (by omega) (by omega)) rfl rfl (fun v_7 e_7 => ?_)
  refine rm_put hc dX5_copyFrom_29 fl_X5_18 (dm_s (d := d) (by omega) (by omega) (by omega) (by omega)) rfl (Nat.le_of_ble_eq_true rfl) ft_5_3 rfl rfl (so_s_3 (d := d) (by omega) (by omega) (by omega)) (rm_nm (fun x_8 ex_8 => ?_))
  exact rm_vret hc dX5_copyFrom_32 (by subst_vars; rw [show 37 + 22 * d + 4 * s0 = 36 + 22 * d + 4 * s0 + 1 by omega, show 38 + 22 * d + 4 * s0 = 36 + 22 * d + 4 * s0 + 2 by omega, show 39 + 22 * d + 4 * s0 = 36 + 22 * d + 4 * s0 + 3 by omega, show 37 + 22 * d2 + 4 * s0 = 36 + 22 * d2 + 4 * s0 + 1 by omega, show 38 + 22 * d2 + 4 * s0 = 36 + 22 * d2 + 4 * s0 + 2 by omega, show 39 + 22 * d2 + 4 * s0 = 36 + 22 * d2 + 4 * s0 + 3 by omega]; exact cpn_4 hkk)

abbrev rm_X5_learnFrom : Room := { frames := 0, cells := 0, slots := 0, locals := 0 }
set_option maxHeartbeats 4000000 in
set_option maxRecDepth 100000 in
theorem c_X5_learnFrom {l : Launch} {D : va_G} {cy : Nat → ClassId} {ad : Ads} (hI : IJ ad) (x : Mem) {k d s0 : Nat} (hk : k < 8) (hd3 : d < 3) (hs : s0 < 4) (hkd : k = 7 → d = 0) {kf j : Nat} (hkf : kf < 7) (hj : j < 4) (hkk : kf = k) : Ctv l yX5_learnFrom cX5_learnFrom 2 none rm_X5_learnFrom D cy ad [.ref (ad k (d + 20) s0), .ref (ad kf 2 j)] x (fun y => y = lrnS x k d s0 kf j) := by
  refine rm_entry (Qc := Qv D cy ad (fun y => y = lrnS x k d s0 kf j)) hI (by decide) (Nat.le_of_ble_eq_true rfl) ?_
  intro p e s m args below meth c hc
  show RM _ _ _ _ _ _ _ _ _ _ _ _ _ _ _ _ _ [(0, .ref (ad k (d + 20) s0)), (1, .ref (ad kf 2 j))] []
  refine rm_aload_n hc dX5_learnFrom_0 rfl rfl ?_
  refine rm_iconst (v := 1) hc dX5_learnFrom_1 (by decide) ?_
  refine rm_put hc dX5_learnFrom_2 fl_X5_21 (dm_s (d := d) (by omega) (by omega) (by omega) (by omega)) rfl (Nat.le_of_ble_eq_true rfl) ft_5_0 rfl rfl (so_s_0 (d := d) (by omega) (by omega) (by omega)) (rm_nm (fun x_1 ex_1 => ?_))
  refine rm_aload_n hc dX5_learnFrom_5 rfl rfl ?_
  refine rm_aload_n hc dX5_learnFrom_6 rfl rfl ?_
  refine rm_geti hc dX5_learnFrom_7 fl_X5_25 (dm_2 (by omega) (by omega)) rfl rfl (fun v_2 e_2 => ?_)
  refine rm_put hc dX5_learnFrom_10 fl_X5_9 (dm_s (d := d) (by omega) (by omega) (by omega) (by omega)) rfl (Nat.le_of_ble_eq_true rfl) ft_5_1 rfl rfl (so_s_1 (d := d) (by omega) (by omega) (by omega)) (rm_nm (fun x_3 ex_3 => ?_))
  refine rm_aload_n hc dX5_learnFrom_13 rfl rfl ?_
  refine rm_aload_n hc dX5_learnFrom_14 rfl rfl ?_
  refine rm_geti hc dX5_learnFrom_15 fl_X5_28 (dm_2 (by omega) (by omega)) rfl rfl (fun v_4 e_4 => ?_)
  refine rm_put hc dX5_learnFrom_18 fl_X5_15 (dm_s (d := d) (by omega) (by omega) (by omega) (by omega)) rfl (Nat.le_of_ble_eq_true rfl) ft_5_2 rfl rfl (so_s_2 (d := d) (by omega) (by omega) (by omega)) (rm_nm (fun x_5 ex_5 => ?_))
  refine rm_aload_n hc dX5_learnFrom_21 rfl rfl ?_
  refine rm_iconst (v := -1) hc dX5_learnFrom_22 (by decide) ?_
  refine rm_put hc dX5_learnFrom_23 fl_X5_18 (dm_s (d := d) (by omega) (by omega) (by omega) (by omega)) rfl (Nat.le_of_ble_eq_true rfl) ft_5_3 rfl rfl (so_s_3 (d := d) (by omega) (by omega) (by omega)) (rm_nm (fun x_6 ex_6 => ?_))
  exact rm_vret hc dX5_learnFrom_26 (by subst_vars; simp [lrnS, up, show ¬ (14 + 4 * j = 36 + 22 * d + 4 * s0) by omega, show ¬ (15 + 4 * j = 36 + 22 * d + 4 * s0) by omega, show ¬ (15 + 4 * j = 37 + 22 * d + 4 * s0) by omega])

abbrev rm_X5_empty : Room := { frames := 0, cells := 0, slots := 0, locals := 0 }
set_option maxHeartbeats 4000000 in
set_option maxRecDepth 100000 in
theorem c_X5_empty {l : Launch} {D : va_G} {cy : Nat → ClassId} {ad : Ads} (hI : IJ ad) (x : Mem) {k d s0 : Nat} (hk : k < 8) (hd3 : d < 3) (hs : s0 < 4) (hkd : k = 7 → d = 0) : Ctv l yX5_empty cX5_empty 1 none rm_X5_empty D cy ad [.ref (ad k (d + 20) s0)] x (fun y => y = empS x k d s0) := by
  refine rm_entry (Qc := Qv D cy ad (fun y => y = empS x k d s0)) hI (by decide) (Nat.le_of_ble_eq_true rfl) ?_
  intro p e s m args below meth c hc
  show RM _ _ _ _ _ _ _ _ _ _ _ _ _ _ _ _ _ [(0, .ref (ad k (d + 20) s0))] []
  refine rm_aload_n hc dX5_empty_0 rfl rfl ?_
  refine rm_iconst (v := 0) hc dX5_empty_1 (by decide) ?_
  refine rm_put hc dX5_empty_2 fl_X5_21 (dm_s (d := d) (by omega) (by omega) (by omega) (by omega)) rfl (Nat.le_of_ble_eq_true rfl) ft_5_0 rfl rfl (so_s_0 (d := d) (by omega) (by omega) (by omega)) (rm_nm (fun x_1 ex_1 => ?_))
  refine rm_aload_n hc dX5_empty_5 rfl rfl ?_
  refine rm_iconst (v := -1) hc dX5_empty_6 (by decide) ?_
  refine rm_put hc dX5_empty_7 fl_X5_9 (dm_s (d := d) (by omega) (by omega) (by omega) (by omega)) rfl (Nat.le_of_ble_eq_true rfl) ft_5_1 rfl rfl (so_s_1 (d := d) (by omega) (by omega) (by omega)) (rm_nm (fun x_2 ex_2 => ?_))
  refine rm_aload_n hc dX5_empty_10 rfl rfl ?_
  refine rm_iconst (v := -1) hc dX5_empty_11 (by decide) ?_
  refine rm_put hc dX5_empty_12 fl_X5_15 (dm_s (d := d) (by omega) (by omega) (by omega) (by omega)) rfl (Nat.le_of_ble_eq_true rfl) ft_5_2 rfl rfl (so_s_2 (d := d) (by omega) (by omega) (by omega)) (rm_nm (fun x_3 ex_3 => ?_))
  refine rm_aload_n hc dX5_empty_15 rfl rfl ?_
  refine rm_iconst (v := -1) hc dX5_empty_16 (by decide) ?_
  refine rm_put hc dX5_empty_17 fl_X5_18 (dm_s (d := d) (by omega) (by omega) (by omega) (by omega)) rfl (Nat.le_of_ble_eq_true rfl) ft_5_3 rfl rfl (so_s_3 (d := d) (by omega) (by omega) (by omega)) (rm_nm (fun x_4 ex_4 => ?_))
  exact rm_vret hc dX5_empty_20 (by subst_vars; rfl)

abbrev rm_X5_look : Room := { frames := 0, cells := 0, slots := 0, locals := 0 }
set_option maxHeartbeats 4000000 in
set_option maxRecDepth 100000 in
theorem c_X5_look {l : Launch} {D : va_G} {cy : Nat → ClassId} {ad : Ads} (hI : IJ ad) (x : Mem) {k d s0 : Nat} (hk : k < 8) (hd3 : d < 3) (hs : s0 < 4) (hkd : k = 7 → d = 0) (w : Int32) : Cti l yX5_look cX5_look 2 (some .int) rm_X5_look D cy ad [.ref (ad k (d + 20) s0), .int w] x (fun r y => r = lookSlot x k d s0 w ∧ y = x) := by
  refine rm_entry (Qc := Qi D cy ad (fun r y => r = lookSlot x k d s0 w ∧ y = x)) hI (by decide) (Nat.le_of_ble_eq_true rfl) ?_
  intro p e s m args below meth c hc
  show RM _ _ _ _ _ _ _ _ _ _ _ _ _ _ _ _ _ [(0, .ref (ad k (d + 20) s0)), (1, .int w)] []
  refine rm_iload_n hc dX5_look_0 rfl rfl ?_
  by_cases z_1 : w = 0
  · --case 0
    subst z_1
    refine rm_tin (off := 31) (tgt := 32) hc dX5_look_1 (by decide) (by decide) (by decide) (by decide) ?_
    refine rm_aload_n hc dX5_look_32 rfl rfl ?_
    refine rm_geti hc dX5_look_33 fl_X5_21 (dm_s (d := d) (by omega) (by omega) (by omega) (by omega)) rfl rfl (fun v_2 e_2 => ?_)
    refine rm_if_eq (tgt := 43) hc dX5_look_36 (by decide) (fun c_3 => ?_) (fun c_3 => ?_)
    · --T
      refine rm_iconst (v := 0) hc dX5_look_43 (by decide) ?_
      exact rm_iret hc dX5_look_44 ⟨by subst_vars; simp [lookSlot, *], rfl⟩
    · --F
      refine rm_iconst (v := 1) hc dX5_look_39 (by decide) ?_
      refine rm_goto (tgt := 44) hc dX5_look_40 (by decide) ?_
      exact rm_iret hc dX5_look_44 ⟨by subst_vars; simp [lookSlot, *], rfl⟩
  by_cases z_4 : w = 1
  · --case 1
    subst z_4
    refine rm_tin (off := 44) (tgt := 45) hc dX5_look_1 (by decide) (by decide) (by decide) (by decide) ?_
    refine rm_aload_n hc dX5_look_45 rfl rfl ?_
    refine rm_geti hc dX5_look_46 fl_X5_9 (dm_s (d := d) (by omega) (by omega) (by omega) (by omega)) rfl rfl (fun v_5 e_5 => ?_)
    exact rm_iret hc dX5_look_49 ⟨by subst_vars; simp [lookSlot, *], rfl⟩
  by_cases z_6 : w = 2
  · --case 2
    subst z_6
    refine rm_tin (off := 49) (tgt := 50) hc dX5_look_1 (by decide) (by decide) (by decide) (by decide) ?_
    refine rm_aload_n hc dX5_look_50 rfl rfl ?_
    refine rm_geti hc dX5_look_51 fl_X5_15 (dm_s (d := d) (by omega) (by omega) (by omega) (by omega)) rfl rfl (fun v_7 e_7 => ?_)
    exact rm_iret hc dX5_look_54 ⟨by subst_vars; simp [lookSlot, *], rfl⟩
  by_cases z_8 : w = 3
  · --case 3
    subst z_8
    refine rm_tin (off := 54) (tgt := 55) hc dX5_look_1 (by decide) (by decide) (by decide) (by decide) ?_
    refine rm_aload_n hc dX5_look_55 rfl rfl ?_
    refine rm_geti hc dX5_look_56 fl_X5_18 (dm_s (d := d) (by omega) (by omega) (by omega) (by omega)) rfl rfl (fun v_9 e_9 => ?_)
    exact rm_iret hc dX5_look_59 ⟨by subst_vars; simp [lookSlot, *], rfl⟩
  refine rm_tout (tgt := 60) hc dX5_look_1 (by have zz0 := lv_neT (k := 0) (a := 0) z_1 (by decide); have zz1 := lv_neT (k := 1) (a := 1) z_4 (by decide); have zz2 := lv_neT (k := 2) (a := 2) z_6 (by decide); have zz3 := lv_neT (k := 3) (a := 3) z_8 (by decide); omega) (by decide) ?_
  refine rm_iconst (v := -1) hc dX5_look_60 (by decide) ?_
  exact rm_iret hc dX5_look_61 ⟨by subst_vars; simp [lookSlot, *], rfl⟩

abbrev rm_X1_isLocked : Room := { frames := 0, cells := 0, slots := 0, locals := 0 }
set_option maxHeartbeats 4000000 in
set_option maxRecDepth 100000 in
theorem c_X1_isLocked {l : Launch} {D : va_G} {cy : Nat → ClassId} {ad : Ads} (hI : IJ ad) (x : Mem) {k d k2 : Nat} (hk : k < 8) (hd3 : d < 3) (hkd : k = 7 → d = 0) (hk2 : k2 < 7) : Cti l yX1_isLocked cX1_isLocked 2 (some .boolean) rm_X1_isLocked D cy ad [.ref (ad k 4 d), .ref (ad k2 8 0)] x (fun r y => r = lockS (x k2 2) (x k (31 + 22 * d)) ∧ y = x) := by
  refine rm_entry (Qc := Qi D cy ad (fun r y => r = lockS (x k2 2) (x k (31 + 22 * d)) ∧ y = x)) hI (by decide) (Nat.le_of_ble_eq_true rfl) ?_
  intro p e s m args below meth c hc
  show RM _ _ _ _ _ _ _ _ _ _ _ _ _ _ _ _ _ [(0, .ref (ad k 4 d)), (1, .ref (ad k2 8 0))] []
  refine rm_aload_n hc dX1_isLocked_0 rfl rfl ?_
  refine rm_geti hc dX1_isLocked_1 fl_X1_42 (dm_8 (by omega)) rfl rfl (fun v_1 e_1 => ?_)
  refine rm_if_le (tgt := 22) hc dX1_isLocked_4 (by decide) (fun c_2 => ?_) (fun c_2 => ?_)
  · --T
    refine rm_iconst (v := 0) hc dX1_isLocked_22 (by decide) ?_
    exact rm_zret hc dX1_isLocked_23 rfl ⟨by subst_vars; simp [lockS, *], rfl⟩
  · --F
    refine rm_aload_n hc dX1_isLocked_7 rfl rfl ?_
    refine rm_geti hc dX1_isLocked_8 fl_X1_26 (dm_4 (by omega) (by omega) (by omega)) rfl rfl (fun v_3 e_3 => ?_)
    refine rm_aload_n hc dX1_isLocked_11 rfl rfl ?_
    refine rm_geti hc dX1_isLocked_12 fl_X1_42 (dm_8 (by omega)) rfl rfl (fun v_4 e_4 => ?_)
    refine rm_icmp_lt (tgt := 22) hc dX1_isLocked_15 (by decide) (fun c_5 => ?_) (fun c_5 => ?_)
    · --T
      refine rm_iconst (v := 0) hc dX1_isLocked_22 (by decide) ?_
      exact rm_zret hc dX1_isLocked_23 rfl ⟨by subst_vars; simp [lockS, *], rfl⟩
    · --F
      refine rm_iconst (v := 1) hc dX1_isLocked_18 (by decide) ?_
      refine rm_goto (tgt := 23) hc dX1_isLocked_19 (by decide) ?_
      exact rm_zret hc dX1_isLocked_23 rfl ⟨by subst_vars; simp [lockS, *], rfl⟩
