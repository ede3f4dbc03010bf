abbrev rm_X0_copyFrom : Room := { frames := 1, cells := 0, slots := 0, locals := 40 }
set_option maxHeartbeats 4000000 in
set_option maxRecDepth 100000 in
theorem c_X0_copyFrom {l : Launch} {D : va_G} {cy : Nat → ClassId} {ad : Ads} (hI : IJ ad) (x : Mem) {k k2 : Nat} (hk : k < 7) (hk2 : k2 < 7) (hkk : k2 ≠ k) : Ctv l yX0_copyFrom cX0_copyFrom 2 none rm_X0_copyFrom D cy ad [.ref (ad k 6 0), .ref (ad k2 6 0)] x (fun y => y = cpS x k 5 k2 5 9) := by
  refine rm_entry (Qc := Qv D cy ad (fun y => y = cpS x k 5 k2 5 9)) hI (by decide) (Nat.le_of_ble_eq_true rfl) ?_
  intro p e s m args below meth c hc
  show RM _ _ _ _ _ _ _ _ _ _ _ _ _ _ _ _ _ [(0, .ref (ad k 6 0)), (1, .ref (ad k2 6 0))] []
  refine rm_aload_n hc dX0_copyFrom_0 rfl rfl ?_
  refine rm_get hc dX0_copyFrom_1 fl_X0_9 (dm_6 (by omega)) rfl rfl ?_
  refine rm_iconst (v := 0) hc dX0_copyFrom_4 (by decide) ?_
  refine rm_aload_n hc dX0_copyFrom_5 rfl rfl ?_
  refine rm_get hc dX0_copyFrom_6 fl_X0_9 (dm_6 (by omega)) rfl rfl ?_
  refine rm_iconst (v := 0) hc dX0_copyFrom_9 (by decide) ?_
  refine rm_bipush (v := 8) hc dX0_copyFrom_10 (by decide) ?_
  refine rm_copy (cn := 8) (dp := 0) (sp := 0) hc dX0_copyFrom_12 kl_copy_X0 (Nat.le_of_ble_eq_true rfl) (Nat.le_of_ble_eq_true rfl) (dm_7 (by omega)) (dm_7 (by omega)) rfl rfl (by omega) (by omega) (so_cp (k2 := k2) (by omega)) (rm_nm (fun x_1 ex_1 => ?_))
  refine rm_aload_n hc dX0_copyFrom_15 rfl rfl ?_
  refine rm_aload_n hc dX0_copyFrom_16 rfl rfl ?_
  refine rm_geti hc dX0_copyFrom_17 fl_X0_21 (dm_6 (by omega)) rfl rfl (fun v_2 e_2 => ?_)
  refine rm_put hc dX0_copyFrom_20 fl_X0_21 (dm_6 (by omega)) rfl (Nat.le_of_ble_eq_true rfl) ft_0_1 rfl rfl (so_6_1 (by omega)) (rm_nm (fun x_3 ex_3 => ?_))
  exact rm_vret hc dX0_copyFrom_23 (by subst_vars; exact cpAir hkk)

abbrev rm_X0_record : Room := { frames := 1, cells := 0, slots := 0, locals := 40 }
set_option maxHeartbeats 4000000 in
set_option maxRecDepth 100000 in
theorem c_X0_record {l : Launch} {D : va_G} {cy : Nat → ClassId} {ad : Ads} (hI : IJ ad) (x : Mem) {k : Nat} (hk : k < 7) (num : Int32) : Ctv l yX0_record cX0_record 2 none rm_X0_record D cy ad [.ref (ad k 6 0), .int num] x (fun y => y = recF x k num) := by
  refine rm_entry (Qc := Qv D cy ad (fun y => y = recF x k num)) hI (by decide) (Nat.le_of_ble_eq_true rfl) ?_
  intro p e s m args below meth c hc
  show RM _ _ _ _ _ _ _ _ _ _ _ _ _ _ _ _ _ [(0, .ref (ad k 6 0)), (1, .int num)] []
  refine rm_aload_n hc dX0_record_0 rfl rfl ?_
  refine rm_get hc dX0_record_1 fl_X0_9 (dm_6 (by omega)) rfl rfl ?_
  refine rm_iconst (v := 0) hc dX0_record_4 (by decide) ?_
  refine rm_aload_n hc dX0_record_5 rfl rfl ?_
  refine rm_get hc dX0_record_6 fl_X0_9 (dm_6 (by omega)) rfl rfl ?_
  refine rm_iconst (v := 1) hc dX0_record_9 (by decide) ?_
  refine rm_bipush (v := 7) hc dX0_record_10 (by decide) ?_
  refine rm_copy (cn := 7) (dp := 1) (sp := 0) hc dX0_record_12 kl_copy_X0 (Nat.le_of_ble_eq_true rfl) (Nat.le_of_ble_eq_true rfl) (dm_7 (by omega)) (dm_7 (by omega)) rfl rfl (by omega) (by omega) (so_sh (by omega)) (rm_nm (fun x_1 ex_1 => ?_))
  refine rm_aload_n hc dX0_record_15 rfl rfl ?_
  refine rm_get hc dX0_record_16 fl_X0_9 (dm_6 (by omega)) rfl rfl ?_
  refine rm_iconst (v := 0) hc dX0_record_19 (by decide) ?_
  refine rm_iload_n hc dX0_record_20 rfl rfl ?_
  refine rm_iast (i := 0) hc dX0_record_21 (dm_7 (by omega)) rfl (by omega) (by decide) rfl (so_7 (i := 0) (by omega) (by omega)) (rm_nm (fun x_2 ex_2 => ?_))
  refine rm_aload_n hc dX0_record_22 rfl rfl ?_
  refine rm_aload_n hc dX0_record_23 rfl rfl ?_
  refine rm_geti hc dX0_record_24 fl_X0_21 (dm_6 (by omega)) rfl rfl (fun v_3 e_3 => ?_)
  refine rm_iconst (v := 1) hc dX0_record_27 (by decide) ?_
  refine rm_iadd hc dX0_record_28 (fun v_4 e_4 => ?_)
  refine rm_bipush (v := 8) hc dX0_record_29 (by decide) ?_
  refine rm_min hc dX0_record_31 kl_min_X0 (Nat.le_of_ble_eq_true rfl) (Nat.le_of_ble_eq_true rfl) ⟨Nat.zero_le _, Nat.zero_le _⟩ (fun v_5 e_5 => ?_)
  refine rm_put hc dX0_record_34 fl_X0_21 (dm_6 (by omega)) rfl (Nat.le_of_ble_eq_true rfl) ft_0_1 rfl rfl (so_6_1 (by omega)) (rm_nm (fun x_6 ex_6 => ?_))
  exact rm_vret hc dX0_record_37 (by subst_vars; simp [recF, up, shA])

abbrev rm_X0_number : Room := { frames := 0, cells := 0, slots := 0, locals := 0 }
set_option maxHeartbeats 4000000 in
set_option maxRecDepth 100000 in
theorem c_X0_number {l : Launch} {D : va_G} {cy : Nat → ClassId} {ad : Ads} (hI : IJ ad) (x : Mem) {k : Nat} (hk : k < 7) (w : Int32) : Cti l yX0_number cX0_number 2 (some .int) rm_X0_number D cy ad [.ref (ad k 6 0), .int w] x (fun r y => r = numA x k w ∧ y = x) := by
  refine rm_entry (Qc := Qi D cy ad (fun r y => r = numA x k w ∧ y = x)) hI (by decide) (Nat.le_of_ble_eq_true rfl) ?_
  intro p e s m args below meth c hc
  show RM _ _ _ _ _ _ _ _ _ _ _ _ _ _ _ _ _ [(0, .ref (ad k 6 0)), (1, .int w)] []
  refine rm_iload_n hc dX0_number_0 rfl rfl ?_
  refine rm_if_lt (tgt := 27) hc dX0_number_1 (by decide) (fun c_1 => ?_) (fun c_1 => ?_)
  · --T
    refine rm_iconst (v := -1) hc dX0_number_27 (by decide) ?_
    exact rm_iret hc dX0_number_28 ⟨by subst_vars; simp [numA, nI_clamp, *]; try (rw [nI_clamp (by omega)]), rfl⟩
  · --F
    refine rm_iload_n hc dX0_number_4 rfl rfl ?_
    refine rm_aload_n hc dX0_number_5 rfl rfl ?_
    refine rm_geti hc dX0_number_6 fl_X0_21 (dm_6 (by omega)) rfl rfl (fun v_2 e_2 => ?_)
    refine rm_icmp_ge (tgt := 27) hc dX0_number_9 (by decide) (fun c_3 => ?_) (fun c_3 => ?_)
    · --T
      refine rm_iconst (v := -1) hc dX0_number_27 (by decide) ?_
      exact rm_iret hc dX0_number_28 ⟨by subst_vars; simp [numA, nI_clamp, *]; try (rw [nI_clamp (by omega)]), rfl⟩
    · --F
      refine rm_iload_n hc dX0_number_12 rfl rfl ?_
      refine rm_bipush (v := 8) hc dX0_number_13 (by decide) ?_
      refine rm_icmp_ge (tgt := 27) hc dX0_number_15 (by decide) (fun c_4 => ?_) (fun c_4 => ?_)
      · --T
        refine rm_iconst (v := -1) hc dX0_number_27 (by decide) ?_
        exact rm_iret hc dX0_number_28 ⟨by subst_vars; simp [numA, nI_clamp, *]; try (rw [nI_clamp (by omega)]), rfl⟩
      · --F
        refine rm_aload_n hc dX0_number_18 rfl rfl ?_
        refine rm_get hc dX0_number_19 fl_X0_9 (dm_6 (by omega)) rfl rfl ?_
        refine rm_iload_n hc dX0_number_22 rfl rfl ?_
        obtain ⟨i_5, hi_5, rfl⟩ := irng (n := 8) (mm := 8) rfl (by decide) c_1 c_4
        refine rm_iald (i := i_5) hc dX0_number_23 (dm_7 (by omega)) rfl (by omega) (by decide) rfl (fun v_6 e_6 => ?_)
        replace e_6 : v_6 = x k (6 + i_5) := e_6.trans (if_pos (by omega))
        refine rm_goto (tgt := 28) hc dX0_number_24 (by decide) ?_
        exact rm_iret hc dX0_number_28 ⟨by subst_vars; simp [numA, nI_clamp, *]; try (rw [nI_clamp (by omega)]), rfl⟩

abbrev rm_X4_least : Room := { frames := 0, cells := 0, slots := 0, locals := 0 }
set_option maxHeartbeats 4000000 in
set_option maxRecDepth 100000 in
theorem c_X4_least {l : Launch} {D : va_G} {cy : Nat → ClassId} {ad : Ads} (hI : IJ ad) (x : Mem) (w : Int32) : Cti l yX4_least cX4_least 1 (some .int) rm_X4_least D cy ad [.int w] x (fun r y => r = (if w = 2 then 0 else 1) ∧ y = x) := by
  refine rm_entry (Qc := Qi D cy ad (fun r y => r = (if w = 2 then 0 else 1) ∧ y = x)) hI (by decide) (Nat.le_of_ble_eq_true rfl) ?_
  intro p e s m args below meth c hc
  show RM _ _ _ _ _ _ _ _ _ _ _ _ _ _ _ _ _ [(0, .int w)] []
  refine rm_iload_n hc dX4_least_0 rfl rfl ?_
  refine rm_iconst (v := 2) hc dX4_least_1 (by decide) ?_
  refine rm_icmp_ne (tgt := 9) hc dX4_least_2 (by decide) (fun c_1 => ?_) (fun c_1 => ?_)
  · --T
    refine rm_iconst (v := 1) hc dX4_least_9 (by decide) ?_
    exact rm_iret hc dX4_least_10 ⟨by subst_vars; simp [*], rfl⟩
  · --F
    refine rm_iconst (v := 0) hc dX4_least_5 (by decide) ?_
    refine rm_goto (tgt := 10) hc dX4_least_6 (by decide) ?_
    exact rm_iret hc dX4_least_10 ⟨by subst_vars; simp [*], rfl⟩

abbrev rm_X4_most : Room := { frames := 0, cells := 0, slots := 0, locals := 0 }
set_option maxHeartbeats 4000000 in
set_option maxRecDepth 100000 in
theorem c_X4_most {l : Launch} {D : va_G} {cy : Nat → ClassId} {ad : Ads} (hI : IJ ad) (x : Mem) (w : Int32) : Cti l yX4_most cX4_most 1 (some .int) rm_X4_most D cy ad [.int w] x (fun r y => r = (if w = 0 then 64 else if w = 1 then 500 else 20) ∧ y = x) := by
  refine rm_entry (Qc := Qi D cy ad (fun r y => r = (if w = 0 then 64 else if w = 1 then 500 else 20) ∧ y = x)) hI (by decide) (Nat.le_of_ble_eq_true rfl) ?_
  intro p e s m args below meth c hc
  show RM _ _ _ _ _ _ _ _ _ _ _ _ _ _ _ _ _ [(0, .int w)] []
  refine rm_iload_n hc dX4_most_0 rfl rfl ?_
  by_cases z_1 : w = 0
  · --case 0
    subst z_1
    refine rm_lkup (off := 27) (tgt := 28) hc dX4_most_1 (by decide) (by decide) (by decide) ?_
    refine rm_bipush (v := 64) hc dX4_most_28 (by decide) ?_
    exact rm_iret hc dX4_most_30 ⟨by subst_vars; simp [*], rfl⟩
  by_cases z_2 : w = 1
  · --case 1
    subst z_2
    refine rm_lkup (off := 30) (tgt := 31) hc dX4_most_1 (by decide) (by decide) (by decide) ?_
    refine rm_sipush (v := 500) hc dX4_most_31 (by decide) ?_
    exact rm_iret hc dX4_most_34 ⟨by subst_vars; simp [*], rfl⟩
  refine rm_lkup (off := 34) (tgt := 35) hc dX4_most_1 (by decide) ((lv_osw (k := 0) z_1 (by decide)).trans ((lv_osw (k := 1) z_2 (by decide)).trans rfl)) (by decide) ?_
  refine rm_bipush (v := 20) hc dX4_most_35 (by decide) ?_
  exact rm_iret hc dX4_most_37 ⟨by subst_vars; simp [*], rfl⟩

abbrev rm_X4_value : Room := { frames := 0, cells := 0, slots := 0, locals := 0 }
set_option maxHeartbeats 4000000 in
set_option maxRecDepth 100000 in
theorem c_X4_value {l : Launch} {D : va_G} {cy : Nat → ClassId} {ad : Ads} (hI : IJ ad) (x : Mem) {k : Nat} (hk : k < 7) (w : Int32) : Cti l yX4_value cX4_value 2 (some .int) rm_X4_value D cy ad [.ref (ad k 8 0), .int w] x (fun r y => r = valS x k w ∧ y = x) := by
  refine rm_entry (Qc := Qi D cy ad (fun r y => r = valS x k w ∧ y = x)) hI (by decide) (Nat.le_of_ble_eq_true rfl) ?_
  intro p e s m args below meth c hc
  show RM _ _ _ _ _ _ _ _ _ _ _ _ _ _ _ _ _ [(0, .ref (ad k 8 0)), (1, .int w)] []
  refine rm_iload_n hc dX4_value_0 rfl rfl ?_
  by_cases z_1 : w = 0
  · --case 0
    subst z_1
    refine rm_lkup (off := 27) (tgt := 28) hc dX4_value_1 (by decide) (by decide) (by decide) ?_
    refine rm_aload_n hc dX4_value_28 rfl rfl ?_
    refine rm_geti hc dX4_value_29 fl_X4_7 (dm_8 (by omega)) rfl rfl (fun v_2 e_2 => ?_)
    exact rm_iret hc dX4_value_32 ⟨by subst_vars; simp [valS, *], rfl⟩
  by_cases z_3 : w = 1
  · --case 1
    subst z_3
    refine rm_lkup (off := 32) (tgt := 33) hc dX4_value_1 (by decide) (by decide) (by decide) ?_
    refine rm_aload_n hc dX4_value_33 rfl rfl ?_
    refine rm_geti hc dX4_value_34 fl_X4_13 (dm_8 (by omega)) rfl rfl (fun v_4 e_4 => ?_)
    exact rm_iret hc dX4_value_37 ⟨by subst_vars; simp [valS, *], rfl⟩
  refine rm_lkup (off := 37) (tgt := 38) hc dX4_value_1 (by decide) ((lv_osw (k := 0) z_1 (by decide)).trans ((lv_osw (k := 1) z_3 (by decide)).trans rfl)) (by decide) ?_
  refine rm_aload_n hc dX4_value_38 rfl rfl ?_
  refine rm_geti hc dX4_value_39 fl_X4_16 (dm_8 (by omega)) rfl rfl (fun v_5 e_5 => ?_)
  exact rm_iret hc dX4_value_42 ⟨by subst_vars; simp [valS, *], rfl⟩

abbrev rm_X4_change : Room := { frames := 0, cells := 0, slots := 0, locals := 0 }
set_option maxHeartbeats 4000000 in
set_option maxRecDepth 100000 in
theorem c_X4_change {l : Launch} {D : va_G} {cy : Nat → ClassId} {ad : Ads} (hI : IJ ad) (x : Mem) {k : Nat} (hk : k < 7) (w v : Int32) : Ctv l yX4_change cX4_change 3 none rm_X4_change D cy ad [.ref (ad k 8 0), .int w, .int v] x (fun y => y = chgS x k w v) := by
  refine rm_entry (Qc := Qv D cy ad (fun y => y = chgS x k w v)) hI (by decide) (Nat.le_of_ble_eq_true rfl) ?_
  intro p e s m args below meth c hc
  show RM _ _ _ _ _ _ _ _ _ _ _ _ _ _ _ _ _ [(0, .ref (ad k 8 0)), (1, .int w), (2, .int v)] []
  refine rm_iload_n hc dX4_change_0 rfl rfl ?_
  by_cases z_1 : w = 0
  · --case 0
    subst z_1
    refine rm_lkup (off := 27) (tgt := 28) hc dX4_change_1 (by decide) (by decide) (by decide) ?_
    refine rm_aload_n hc dX4_change_28 rfl rfl ?_
    refine rm_iload_n hc dX4_change_29 rfl rfl ?_
    refine rm_put hc dX4_change_30 fl_X4_7 (dm_8 (by omega)) rfl (Nat.le_of_ble_eq_true rfl) ft_4_0 rfl rfl (so_8_0 (by omega)) (rm_nm (fun x_2 ex_2 => ?_))
    refine rm_goto (tgt := 49) hc dX4_change_33 (by decide) ?_
    exact rm_vret hc dX4_change_49 (by subst_vars; simp [chgS, *])
  by_cases z_3 : w = 1
  · --case 1
    subst z_3
    refine rm_lkup (off := 35) (tgt := 36) hc dX4_change_1 (by decide) (by decide) (by decide) ?_
    refine rm_aload_n hc dX4_change_36 rfl rfl ?_
    refine rm_iload_n hc dX4_change_37 rfl rfl ?_
    refine rm_put hc dX4_change_38 fl_X4_13 (dm_8 (by omega)) rfl (Nat.le_of_ble_eq_true rfl) ft_4_1 rfl rfl (so_8_1 (by omega)) (rm_nm (fun x_4 ex_4 => ?_))
    refine rm_goto (tgt := 49) hc dX4_change_41 (by decide) ?_
    exact rm_vret hc dX4_change_49 (by subst_vars; simp [chgS, *])
  refine rm_lkup (off := 43) (tgt := 44) hc dX4_change_1 (by decide) ((lv_osw (k := 0) z_1 (by decide)).trans ((lv_osw (k := 1) z_3 (by decide)).trans rfl)) (by decide) ?_
  refine rm_aload_n hc dX4_change_44 rfl rfl ?_
  refine rm_iload_n hc dX4_change_45 rfl rfl ?_
  refine rm_put hc dX4_change_46 fl_X4_16 (dm_8 (by omega)) rfl (Nat.le_of_ble_eq_true rfl) ft_4_2 rfl rfl (so_8_2 (by omega)) (rm_nm (fun x_5 ex_5 => ?_))
  exact rm_vret hc dX4_change_49 (by subst_vars; simp [chgS, *])

abbrev rm_X4_copyFrom : Room := { frames := 0, cells := 0, slots := 0, locals := 0 }
set_option maxHeartbeats 4000000 in
set_option maxRecDepth 100000 in
theorem c_X4_copyFrom {l : Launch} {D : va_G} {cy : Nat → ClassId} {ad : Ads} (hI : IJ ad) (x : Mem) {k k2 : Nat} (hk : k < 7) (hk2 : k2 < 7) (hkk : k2 ≠ k) : Ctv l yX4_copyFrom cX4_copyFrom 2 none rm_X4_copyFrom D cy ad [.ref (ad k 8 0), .ref (ad k2 8 0)] x (fun y => y = cpS x k 0 k2 0 3) := by
  refine rm_entry (Qc := Qv D cy ad (fun y => y = cpS x k 0 k2 0 3)) hI (by decide) (Nat.le_of_ble_eq_true rfl) ?_
  intro p e s m args below meth c hc
  show RM _ _ _ _ _ _ _ _ _ _ _ _ _ _ _ _ _ [(0, .ref (ad k 8 0)), (1, .ref (ad k2 8 0))] []
  refine rm_aload_n hc dX4_copyFrom_0 rfl rfl ?_
  refine rm_aload_n hc dX4_copyFrom_1 rfl rfl ?_
  refine rm_geti hc dX4_copyFrom_2 fl_X4_7 (dm_8 (by omega)) rfl rfl (fun v_1 e_1 => ?_)
  refine rm_put hc dX4_copyFrom_5 fl_X4_7 (dm_8 (by omega)) rfl (Nat.le_of_ble_eq_true rfl) ft_4_0 rfl rfl (so_8_0 (by omega)) (rm_nm (fun x_2 ex_2 => ?_))
  refine rm_aload_n hc dX4_copyFrom_8 rfl rfl ?_
  refine rm_aload_n hc dX4_copyFrom_9 rfl rfl ?_
  refine rm_geti hc dX4_copyFrom_10 fl_X4_13 (dm_8 (by omega)) rfl rfl (fun v_3 e_3 => ?_)
  refine rm_put hc dX4_copyFrom_13 fl_X4_13 (dm_8 (by omega)) rfl (Nat.le_of_ble_eq_true rfl) ft_4_1 rfl rfl (so_8_1 (by omega)) (rm_nm (fun x_4 ex_4 => ?_))
  refine rm_aload_n hc dX4_copyFrom_16 rfl rfl ?_
  refine rm_aload_n hc dX4_copyFrom_17 rfl rfl ?_
  refine rm_geti hc dX4_copyFrom_18 fl_X4_16 (dm_8 (by omega)) rfl rfl (fun v_5 e_5 => ?_)
  refine rm_put hc dX4_copyFrom_21 fl_X4_16 (dm_8 (by omega)) rfl (Nat.le_of_ble_eq_true rfl) ft_4_2 rfl rfl (so_8_2 (by omega)) (rm_nm (fun x_6 ex_6 => ?_))
  exact rm_vret hc dX4_copyFrom_24 (by subst_vars; exact cpn_3 (o := 0) (o2 := 0) hkk)

abbrev rm_X5_stepsTo : Room := { frames := 1, cells := 0, slots := 0, locals := 21 }
set_option maxHeartbeats 4000000 in
set_option maxRecDepth 100000 in
theorem c_X5_stepsTo {l : Launch} {D : va_G} {cy : Nat → ClassId} {ad : Ads} (hI : IJ ad) (x : Mem) {k d s0 : Nat} (hk : k < 8) (hd3 : d < 3) (hs : s0 < 4) (hkd : k = 7 → d = 0) (num : Int32) (mm : Nat) (hmm : mm < 2 ^ 30) : Cti l yX5_stepsTo cX5_stepsTo 5 (some .int) rm_X5_stepsTo D cy ad [.ref (ad k (d + 20) s0), .int num, .int (nI (mm))] x (fun r y => r = nI (stpS x k d s0 num mm) ∧ y = x) := by
  refine rm_entry (Qc := Qi D cy ad (fun r y => r = nI (stpS x k d s0 num mm) ∧ y = x)) hI (by decide) (Nat.le_of_ble_eq_true rfl) ?_
  intro p e s m args below meth c hc
  show RM _ _ _ _ _ _ _ _ _ _ _ _ _ _ _ _ _ [(0, .ref (ad k (d + 20) s0)), (1, .int num), (2, .int (nI (mm)))] []
  refine rm_aload_n hc dX5_stepsTo_0 rfl rfl ?_
  refine rm_geti hc dX5_stepsTo_1 fl_X5_21 (dm_s (d := d) (by omega) (by omega) (by omega) (by omega)) rfl rfl (fun v_1 e_1 => ?_)
  refine rm_if_ne (tgt := 9) hc dX5_stepsTo_4 (by decide) (fun c_2 => ?_) (fun c_2 => ?_)
  · --T
    refine rm_aload_n hc dX5_stepsTo_9 rfl rfl ?_
    refine rm_geti hc dX5_stepsTo_10 fl_X5_15 (dm_s (d := d) (by omega) (by omega) (by omega) (by omega)) rfl rfl (fun v_3 e_3 => ?_)
    refine rm_istore_n (ls' := [(0, .ref (ad k (d + 20) s0)), (1, .int num), (2, .int (nI (mm))), (3, .int v_3)]) hc dX5_stepsTo_13 rfl (by decide) rfl ?_
    refine rm_iconst (v := 1) hc dX5_stepsTo_14 (by decide) ?_
    refine rm_istore (ls' := [(0, .ref (ad k (d + 20) s0)), (1, .int num), (2, .int (nI (mm))), (3, .int v_3), (4, .int 1)]) hc dX5_stepsTo_15 (by decide) rfl ?_
    have key : ∀ (f i : Nat) (cv : Int32), i + f = mm → stp (x k (37 + 22 * d + 4 * s0)) num f cv i = stpS x k d s0 num mm → RM p l e rm_X5_stepsTo s m args below meth c 5 (AA ad s.heap.size) (GG D cy ad x) 0 0 (QQ (Qi D cy ad (fun r y => r = nI (stpS x k d s0 num mm) ∧ y = x)) below args s ad) 17 [(0, .ref (ad k (d + 20) s0)), (1, .int num), (2, .int (nI (mm))), (3, .int cv), (4, .int (nI (i + 1)))] [] := by
      intro f
      induction f with
      | zero =>
        intro i cv hif hst
        refine rm_iload hc dX5_stepsTo_17 rfl ?_
        refine rm_iload_n hc dX5_stepsTo_19 rfl rfl ?_
        refine rm_icmp_gt (tgt := 49) hc dX5_stepsTo_20 (by decide) (fun _ => ?_) (fun h => absurd (nI_lt (a := mm) (b := i + 1) (by omega) (by omega)) h)
        refine rm_iconst (v := 0) hc dX5_stepsTo_49 (by decide) ?_
        exact rm_iret hc dX5_stepsTo_50 ⟨by rw [← hst]; rfl, rfl⟩
      | succ f ih =>
        intro i cv hif hst
        refine rm_iload hc dX5_stepsTo_17 rfl ?_
        refine rm_iload_n hc dX5_stepsTo_19 rfl rfl ?_
        refine rm_icmp_gt (tgt := 49) hc dX5_stepsTo_20 (by decide) (fun h => absurd h (nI_nlt (a := mm) (b := i + 1) (by omega) (by omega))) (fun _ => ?_)
        refine rm_iload_n hc dX5_stepsTo_23 rfl rfl ?_
        refine rm_calliN (As := [.int cv]) (rest := []) hc dX5_stepsTo_24 (c_X8_counterBehind hI x cv) mn_X5_31 (hn := rfl) (hst := rfl) (hw := Nat.le_of_ble_eq_true rfl) (hR := ⟨⟨rfl, rfl⟩, Nat.le_of_ble_eq_true rfl, Nat.le_of_ble_eq_true rfl⟩) (hnc := ⟨Nat.zero_le _, Nat.zero_le _⟩) (fun r_6 y_6 h_6 => ?_)
        obtain ⟨e_6, ey_6⟩ := h_6
        obtain rfl := ey_6.symm
        refine rm_istore_n (ls' := [(0, .ref (ad k (d + 20) s0)), (1, .int num), (2, .int (nI (mm))), (3, .int r_6), (4, .int (nI (i + 1)))]) hc dX5_stepsTo_27 rfl (by decide) rfl ?_
        refine rm_aload_n hc dX5_stepsTo_28 rfl rfl ?_
        refine rm_geti hc dX5_stepsTo_29 fl_X5_9 (dm_s (d := d) (by omega) (by omega) (by omega) (by omega)) rfl rfl (fun v_7 e_7 => ?_)
        refine rm_iload_n hc dX5_stepsTo_32 rfl rfl ?_
        refine rm_calliN (As := [.int v_7, .int r_6]) (rest := []) hc dX5_stepsTo_33 (c_X8_numberOf hI x v_7 r_6) mn_X5_35 (hn := rfl) (hst := rfl) (hw := Nat.le_of_ble_eq_true rfl) (hR := ⟨⟨rfl, rfl⟩, Nat.le_of_ble_eq_true rfl, Nat.le_of_ble_eq_true rfl⟩) (hnc := ⟨Nat.zero_le _, Nat.zero_le _⟩) (fun r_8 y_8 h_8 => ?_)
        obtain ⟨e_8, ey_8⟩ := h_8
        obtain rfl := ey_8.symm
        refine rm_iload_n hc dX5_stepsTo_36 rfl rfl ?_
        refine rm_icmp_ne (tgt := 43) hc dX5_stepsTo_37 (by decide) (fun c_9 => ?_) (fun c_9 => ?_)
        · --T
          refine rm_iinc (v := (nI (i + 2))) (ls' := [(0, .ref (ad k (d + 20) s0)), (1, .int num), (2, .int (nI (mm))), (3, .int r_6), (4, .int (nI (i + 2)))]) hc dX5_stepsTo_43 rfl (nIj (by omega)) (by decide) rfl ?_
          refine rm_goto (tgt := 17) hc dX5_stepsTo_46 (by decide) ?_
          exact ih (i + 1) _ (by omega) (by rw [← hst, stp_n (by subst_vars; assumption)]; subst_vars; rfl)
        · --F
          refine rm_iload hc dX5_stepsTo_40 rfl ?_
          exact rm_iret hc dX5_stepsTo_42 ⟨by rw [← hst, stp_y (by subst_vars; first | assumption | rfl)], rfl⟩
    exact key mm 0 _ (by omega) (by unfold stpS; rw [if_neg (by subst_vars; assumption)]; subst_vars; rfl)
  · --F
    refine rm_iconst (v := 0) hc dX5_stepsTo_7 (by decide) ?_
    exact rm_iret hc dX5_stepsTo_8 ⟨by unfold stpS; rw [if_pos (by subst_vars; assumption)]; rfl, rfl⟩

abbrev rm_X5_take : Room := { frames := 1, cells := 0, slots := 0, locals := 20 }
set_option maxHeartbeats 4000000 in
set_option maxRecDepth 100000 in
theorem c_X5_take {l : Launch} {D : va_G} {cy : Nat → ClassId} {ad : Ads} (hI : IJ ad) (x : Mem) {k d s0 : Nat} (hk : k < 8) (hd3 : d < 3) (hs : s0 < 4) (hkd : k = 7 → d = 0) (a w : Int32) : Cti l yX5_take cX5_take 4 (some .boolean) rm_X5_take D cy ad [.ref (ad k (d + 20) s0), .int a, .int w] x (fun r y => r = (if takS x k d s0 a w then 1 else 0) ∧ y = (if takS x k d s0 a w then tak1 x k d s0 a else tak0 x k d s0 a)) := by
  refine rm_entry (Qc := Qi D cy ad (fun r y => r = (if takS x k d s0 a w then 1 else 0) ∧ y = (if takS x k d s0 a w then tak1 x k d s0 a else tak0 x k d s0 a))) hI (by decide) (Nat.le_of_ble_eq_true rfl) ?_
  intro p e s m args below meth c hc
  show RM _ _ _ _ _ _ _ _ _ _ _ _ _ _ _ _ _ [(0, .ref (ad k (d + 20) s0)), (1, .int a), (2, .int w)] []
  refine rm_aload_n hc dX5_take_0 rfl rfl ?_
  refine rm_geti hc dX5_take_1 fl_X5_15 (dm_s (d := d) (by omega) (by omega) (by omega) (by omega)) rfl rfl (fun v_1 e_1 => ?_)
  refine rm_iload_n hc dX5_take_4 rfl rfl ?_
  refine rm_iadd hc dX5_take_5 (fun v_2 e_2 => ?_)
  refine rm_sipush (v := 10000) hc dX5_take_6 (by decide) ?_
  refine rm_irem hc dX5_take_9 (by decide) (fun v_3 e_3 => ?_)
  refine rm_istore_n (ls' := [(0, .ref (ad k (d + 20) s0)), (1, .int a), (2, .int w), (3, .int v_3)]) hc dX5_take_10 rfl (by decide) rfl ?_
  refine rm_iload_n hc dX5_take_11 rfl rfl ?_
  refine rm_iload_n hc dX5_take_12 rfl rfl ?_
  refine rm_icmp_le (tgt := 35) hc dX5_take_13 (by decide) (fun c_4 => ?_) (fun c_4 => ?_)
  · --T
    refine rm_aload_n hc dX5_take_35 rfl rfl ?_
    refine rm_iload_n hc dX5_take_36 rfl rfl ?_
    refine rm_put hc dX5_take_37 fl_X5_15 (dm_s (d := d) (by omega) (by omega) (by omega) (by omega)) rfl (Nat.le_of_ble_eq_true rfl) ft_5_2 rfl rfl (so_s_2 (d := d) (by omega) (by omega) (by omega)) (rm_nm (fun x_5 ex_5 => ?_))
    refine rm_aload_n hc dX5_take_40 rfl rfl ?_
    refine rm_iconst (v := -1) hc dX5_take_41 (by decide) ?_
    refine rm_put hc dX5_take_42 fl_X5_18 (dm_s (d := d) (by omega) (by omega) (by omega) (by omega)) rfl (Nat.le_of_ble_eq_true rfl) ft_5_3 rfl rfl (so_s_3 (d := d) (by omega) (by omega) (by omega)) (rm_nm (fun x_6 ex_6 => ?_))
    refine rm_iconst (v := 1) hc dX5_take_45 (by decide) ?_
    exact rm_zret hc dX5_take_46 rfl ⟨by rw [if_pos (by unfold takS opnS; subst_vars; first | exact Or.inl (by assumption) | exact Or.inr ⟨by assumption, by assumption⟩)], by rw [if_pos (by unfold takS opnS; subst_vars; first | exact Or.inl (by assumption) | exact Or.inr ⟨by assumption, by assumption⟩)]; subst_vars; simp [tak1, up, ctr]⟩
  · --F
    refine rm_aload_n hc dX5_take_16 rfl rfl ?_
    refine rm_geti hc dX5_take_17 fl_X5_18 (dm_s (d := d) (by omega) (by omega) (by omega) (by omega)) rfl rfl (fun v_7 e_7 => ?_)
    refine rm_iconst (v := -1) hc dX5_take_20 (by decide) ?_
    refine rm_icmp_eq (tgt := 47) hc dX5_take_21 (by decide) (fun c_8 => ?_) (fun c_8 => ?_)
    · --T
      refine rm_aload_n hc dX5_take_47 rfl rfl ?_
      refine rm_iload_n hc dX5_take_48 rfl rfl ?_
      refine rm_put hc dX5_take_49 fl_X5_18 (dm_s (d := d) (by omega) (by omega) (by omega) (by omega)) rfl (Nat.le_of_ble_eq_true rfl) ft_5_3 rfl rfl (so_s_3 (d := d) (by omega) (by omega) (by omega)) (rm_nm (fun x_9 ex_9 => ?_))
      refine rm_iconst (v := 0) hc dX5_take_52 (by decide) ?_
      exact rm_zret hc dX5_take_53 rfl ⟨by rw [if_neg (by unfold takS opnS; subst_vars; rintro (h1 | ⟨h1, h2⟩) <;> first | contradiction | exact absurd (by assumption) h1)], by rw [if_neg (by unfold takS opnS; subst_vars; rintro (h1 | ⟨h1, h2⟩) <;> first | contradiction | exact absurd (by assumption) h1)]; subst_vars; rfl⟩
    · --F
      refine rm_iload_n hc dX5_take_24 rfl rfl ?_
      refine rm_aload_n hc dX5_take_25 rfl rfl ?_
      refine rm_geti hc dX5_take_26 fl_X5_18 (dm_s (d := d) (by omega) (by omega) (by omega) (by omega)) rfl rfl (fun v_10 e_10 => ?_)
      refine rm_calliN (As := [.int v_10]) (rest := [.int v_3]) hc dX5_take_29 (c_X8_counterBehind hI x v_10) mn_X5_31 (hn := rfl) (hst := rfl) (hw := Nat.le_of_ble_eq_true rfl) (hR := ⟨⟨rfl, rfl⟩, Nat.le_of_ble_eq_true rfl, Nat.le_of_ble_eq_true rfl⟩) (hnc := ⟨Nat.zero_le _, Nat.zero_le _⟩) (fun r_11 y_11 h_11 => ?_)
      obtain ⟨e_11, ey_11⟩ := h_11
      obtain rfl := ey_11.symm
      refine rm_icmp_ne (tgt := 47) hc dX5_take_32 (by decide) (fun c_12 => ?_) (fun c_12 => ?_)
      · --T
        refine rm_aload_n hc dX5_take_47 rfl rfl ?_
        refine rm_iload_n hc dX5_take_48 rfl rfl ?_
        refine rm_put hc dX5_take_49 fl_X5_18 (dm_s (d := d) (by omega) (by omega) (by omega) (by omega)) rfl (Nat.le_of_ble_eq_true rfl) ft_5_3 rfl rfl (so_s_3 (d := d) (by omega) (by omega) (by omega)) (rm_nm (fun x_13 ex_13 => ?_))
        refine rm_iconst (v := 0) hc dX5_take_52 (by decide) ?_
        exact rm_zret hc dX5_take_53 rfl ⟨by rw [if_neg (by unfold takS opnS; subst_vars; rintro (h1 | ⟨h1, h2⟩) <;> first | contradiction | exact absurd (by assumption) h1)], by rw [if_neg (by unfold takS opnS; subst_vars; rintro (h1 | ⟨h1, h2⟩) <;> first | contradiction | exact absurd (by assumption) h1)]; subst_vars; rfl⟩
      · --F
        refine rm_aload_n hc dX5_take_35 rfl rfl ?_
        refine rm_iload_n hc dX5_take_36 rfl rfl ?_
        refine rm_put hc dX5_take_37 fl_X5_15 (dm_s (d := d) (by omega) (by omega) (by omega) (by omega)) rfl (Nat.le_of_ble_eq_true rfl) ft_5_2 rfl rfl (so_s_2 (d := d) (by omega) (by omega) (by omega)) (rm_nm (fun x_14 ex_14 => ?_))
        refine rm_aload_n hc dX5_take_40 rfl rfl ?_
        refine rm_iconst (v := -1) hc dX5_take_41 (by decide) ?_
        refine rm_put hc dX5_take_42 fl_X5_18 (dm_s (d := d) (by omega) (by omega) (by omega) (by omega)) rfl (Nat.le_of_ble_eq_true rfl) ft_5_3 rfl rfl (so_s_3 (d := d) (by omega) (by omega) (by omega)) (rm_nm (fun x_15 ex_15 => ?_))
        refine rm_iconst (v := 1) hc dX5_take_45 (by decide) ?_
        exact rm_zret hc dX5_take_46 rfl ⟨by rw [if_pos (by unfold takS opnS; subst_vars; first | exact Or.inl (by assumption) | exact Or.inr ⟨by assumption, by assumption⟩)], by rw [if_pos (by unfold takS opnS; subst_vars; first | exact Or.inl (by assumption) | exact Or.inr ⟨by assumption, by assumption⟩)]; subst_vars; simp [tak1, up, ctr]⟩
