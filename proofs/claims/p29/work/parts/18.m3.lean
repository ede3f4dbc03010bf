theorem cpn_6 {x : Mem} {k k2 o o2 : Nat} (h : k2 ≠ k) : (up (up (up (up (up (up x k o (x k2 o2)) k (o + 1) ((up x k o (x k2 o2)) k2 (o2 + 1))) k (o + 2) ((up (up x k o (x k2 o2)) k (o + 1) ((up x k o (x k2 o2)) k2 (o2 + 1))) k2 (o2 + 2))) k (o + 3) ((up (up (up x k o (x k2 o2)) k (o + 1) ((up x k o (x k2 o2)) k2 (o2 + 1))) k (o + 2) ((up (up x k o (x k2 o2)) k (o + 1) ((up x k o (x k2 o2)) k2 (o2 + 1))) k2 (o2 + 2))) k2 (o2 + 3))) k (o + 4) ((up (up (up (up x k o (x k2 o2)) k (o + 1) ((up x k o (x k2 o2)) k2 (o2 + 1))) k (o + 2) ((up (up x k o (x k2 o2)) k (o + 1) ((up x k o (x k2 o2)) k2 (o2 + 1))) k2 (o2 + 2))) k (o + 3) ((up (up (up x k o (x k2 o2)) k (o + 1) ((up x k o (x k2 o2)) k2 (o2 + 1))) k (o + 2) ((up (up x k o (x k2 o2)) k (o + 1) ((up x k o (x k2 o2)) k2 (o2 + 1))) k2 (o2 + 2))) k2 (o2 + 3))) k2 (o2 + 4))) k (o + 5) ((up (up (up (up (up x k o (x k2 o2)) k (o + 1) ((up x k o (x k2 o2)) k2 (o2 + 1))) k (o + 2) ((up (up x k o (x k2 o2)) k (o + 1) ((up x k o (x k2 o2)) k2 (o2 + 1))) k2 (o2 + 2))) k (o + 3) ((up (up (up x k o (x k2 o2)) k (o + 1) ((up x k o (x k2 o2)) k2 (o2 + 1))) k (o + 2) ((up (up x k o (x k2 o2)) k (o + 1) ((up x k o (x k2 o2)) k2 (o2 + 1))) k2 (o2 + 2))) k2 (o2 + 3))) k (o + 4) ((up (up (up (up x k o (x k2 o2)) k (o + 1) ((up x k o (x k2 o2)) k2 (o2 + 1))) k (o + 2) ((up (up x k o (x k2 o2)) k (o + 1) ((up x k o (x k2 o2)) k2 (o2 + 1))) k2 (o2 + 2))) k (o + 3) ((up (up (up x k o (x k2 o2)) k (o + 1) ((up x k o (x k2 o2)) k2 (o2 + 1))) k (o + 2) ((up (up x k o (x k2 o2)) k (o + 1) ((up x k o (x k2 o2)) k2 (o2 + 1))) k2 (o2 + 2))) k2 (o2 + 3))) k2 (o2 + 4))) k2 (o2 + 5))) = cpS x k o k2 o2 6 := by
  simp only [up_b _ _ _ h]
  rw [cpS_1]
  rw [cpS_up h]
  rw [cpS_up h]
  rw [cpS_up h]
  rw [cpS_up h]
  rw [cpS_up h]

abbrev rm_X1_copyFrom : Room := { frames := 1, cells := 0, slots := 0, locals := 21 }
set_option maxHeartbeats 4000000 in
set_option maxRecDepth 100000 in
theorem c_X1_copyFrom {l : Launch} {D : va_G} {cy : Nat → ClassId} {ad : Ads} (hI : IJ ad) (x : Mem) {k d k2 d2 : Nat} (hk : k < 8) (hd3 : d < 3) (hkd : k = 7 → d = 0) (hk2 : k2 < 8) (hd2 : d2 < 3) (hkd2 : k2 = 7 → d2 = 0) (hkk : k2 ≠ k) (hfl : ∀ q, q < 4 → isFlag (x k2 (36 + 22 * d2 + 4 * q))) (hfo : isFlag (x k2 (30 + 22 * d2))) : Ctv l yX1_copyFrom cX1_copyFrom 3 none rm_X1_copyFrom D cy ad [.ref (ad k 4 d), .ref (ad k2 4 d2)] x (fun y => y = cpS x k (30 + 22 * d) k2 (30 + 22 * d2) 22) := by
  refine rm_entry (Qc := Qv D cy ad (fun y => y = cpS x k (30 + 22 * d) k2 (30 + 22 * d2) 22)) hI (by decide) (Nat.le_of_ble_eq_true rfl) ?_
  intro p e s m args below meth c hc
  show RM _ _ _ _ _ _ _ _ _ _ _ _ _ _ _ _ _ [(0, .ref (ad k 4 d)), (1, .ref (ad k2 4 d2))] []
  refine rm_iconst (v := 0) hc dX1_copyFrom_0 (by decide) ?_
  refine rm_istore_n (ls' := [(0, .ref (ad k 4 d)), (1, .ref (ad k2 4 d2)), (2, .int 0)]) hc dX1_copyFrom_1 rfl (by decide) rfl ?_
  refine rm_iload_n hc dX1_copyFrom_2 rfl rfl ?_
  refine rm_iconst (v := 4) hc dX1_copyFrom_3 (by decide) ?_
  refine rm_icmp_ge (tgt := 28) hc dX1_copyFrom_4 (by decide) (fun h => absurd h (by decide)) (fun _ => ?_)
  refine rm_aload_n hc dX1_copyFrom_7 rfl rfl ?_
  refine rm_get hc dX1_copyFrom_8 fl_X1_11 (dm_4 (by omega) (by omega) (by omega)) rfl rfl ?_
  refine rm_iload_n hc dX1_copyFrom_11 rfl rfl ?_
  refine rm_aald (t0 := 3) (i := 0) (v := .ref (ad k (d + 20) 0)) hc dX1_copyFrom_12 (dm_5 (by omega) (by omega) (by omega)) rfl rfl (by omega) (by decide) rfl rfl ?_
  refine rm_aload_n hc dX1_copyFrom_13 rfl rfl ?_
  refine rm_get hc dX1_copyFrom_14 fl_X1_11 (dm_4 (by omega) (by omega) (by omega)) rfl rfl ?_
  refine rm_iload_n hc dX1_copyFrom_17 rfl rfl ?_
  refine rm_aald (t0 := 3) (i := 0) (v := .ref (ad k2 (d2 + 20) 0)) hc dX1_copyFrom_18 (dm_5 (by omega) (by omega) (by omega)) rfl rfl (by omega) (by decide) rfl rfl ?_
  refine rm_callvV (As := [.ref (ad k2 (d2 + 20) 0)]) (rest := []) hc dX1_copyFrom_19 (c_X5_copyFrom hI x (k := k) (d := d) (s0 := 0) (k2 := k2) (d2 := d2) (by omega) (by omega) (by omega) (by omega) (by omega) (by omega) (by omega) hkk (by subst_vars; first | exact hfl _ (by omega) | (simp only [cpS_b hkk]; exact hfl _ (by omega)))) mv_X1_18 (dm_s (d := d) (by omega) (by omega) (by omega) (by omega)) rfl rfl (hn := rfl) (hst := rfl) (hw := Nat.le_of_ble_eq_true rfl) (hR := ⟨⟨rfl, rfl⟩, Nat.le_of_ble_eq_true rfl, Nat.le_of_ble_eq_true rfl⟩) (hnc := ⟨Nat.zero_le _, Nat.zero_le _⟩) (fun y_2 h_2 => ?_)
  refine rm_iinc (v := 1) (ls' := [(0, .ref (ad k 4 d)), (1, .ref (ad k2 4 d2)), (2, .int 1)]) hc dX1_copyFrom_22 rfl (by decide) (by decide) rfl ?_
  refine rm_goto (tgt := 2) hc dX1_copyFrom_25 (by decide) ?_
  refine rm_iload_n hc dX1_copyFrom_2 rfl rfl ?_
  refine rm_iconst (v := 4) hc dX1_copyFrom_3 (by decide) ?_
  refine rm_icmp_ge (tgt := 28) hc dX1_copyFrom_4 (by decide) (fun h => absurd h (by decide)) (fun _ => ?_)
  refine rm_aload_n hc dX1_copyFrom_7 rfl rfl ?_
  refine rm_get hc dX1_copyFrom_8 fl_X1_11 (dm_4 (by omega) (by omega) (by omega)) rfl rfl ?_
  refine rm_iload_n hc dX1_copyFrom_11 rfl rfl ?_
  refine rm_aald (t0 := 3) (i := 1) (v := .ref (ad k (d + 20) 1)) hc dX1_copyFrom_12 (dm_5 (by omega) (by omega) (by omega)) rfl rfl (by omega) (by decide) rfl rfl ?_
  refine rm_aload_n hc dX1_copyFrom_13 rfl rfl ?_
  refine rm_get hc dX1_copyFrom_14 fl_X1_11 (dm_4 (by omega) (by omega) (by omega)) rfl rfl ?_
  refine rm_iload_n hc dX1_copyFrom_17 rfl rfl ?_
  refine rm_aald (t0 := 3) (i := 1) (v := .ref (ad k2 (d2 + 20) 1)) hc dX1_copyFrom_18 (dm_5 (by omega) (by omega) (by omega)) rfl rfl (by omega) (by decide) rfl rfl ?_
  refine rm_callvV (As := [.ref (ad k2 (d2 + 20) 1)]) (rest := []) hc dX1_copyFrom_19 (c_X5_copyFrom hI y_2 (k := k) (d := d) (s0 := 1) (k2 := k2) (d2 := d2) (by omega) (by omega) (by omega) (by omega) (by omega) (by omega) (by omega) hkk (by subst_vars; first | exact hfl _ (by omega) | (simp only [cpS_b hkk]; exact hfl _ (by omega)))) mv_X1_18 (dm_s (d := d) (by omega) (by omega) (by omega) (by omega)) rfl rfl (hn := rfl) (hst := rfl) (hw := Nat.le_of_ble_eq_true rfl) (hR := ⟨⟨rfl, rfl⟩, Nat.le_of_ble_eq_true rfl, Nat.le_of_ble_eq_true rfl⟩) (hnc := ⟨Nat.zero_le _, Nat.zero_le _⟩) (fun y_4 h_4 => ?_)
  refine rm_iinc (v := 2) (ls' := [(0, .ref (ad k 4 d)), (1, .ref (ad k2 4 d2)), (2, .int 2)]) hc dX1_copyFrom_22 rfl (by decide) (by decide) rfl ?_
  refine rm_goto (tgt := 2) hc dX1_copyFrom_25 (by decide) ?_
  refine rm_iload_n hc dX1_copyFrom_2 rfl rfl ?_
  refine rm_iconst (v := 4) hc dX1_copyFrom_3 (by decide) ?_
  refine rm_icmp_ge (tgt := 28) hc dX1_copyFrom_4 (by decide) (fun h => absurd h (by decide)) (fun _ => ?_)
  refine rm_aload_n hc dX1_copyFrom_7 rfl rfl ?_
  refine rm_get hc dX1_copyFrom_8 fl_X1_11 (dm_4 (by omega) (by omega) (by omega)) rfl rfl ?_
  refine rm_iload_n hc dX1_copyFrom_11 rfl rfl ?_
  refine rm_aald (t0 := 3) (i := 2) (v := .ref (ad k (d + 20) 2)) hc dX1_copyFrom_12 (dm_5 (by omega) (by omega) (by omega)) rfl rfl (by omega) (by decide) rfl rfl ?_
  refine rm_aload_n hc dX1_copyFrom_13 rfl rfl ?_
  refine rm_get hc dX1_copyFrom_14 fl_X1_11 (dm_4 (by omega) (by omega) (by omega)) rfl rfl ?_
  refine rm_iload_n hc dX1_copyFrom_17 rfl rfl ?_
  refine rm_aald (t0 := 3) (i := 2) (v := .ref (ad k2 (d2 + 20) 2)) hc dX1_copyFrom_18 (dm_5 (by omega) (by omega) (by omega)) rfl rfl (by omega) (by decide) rfl rfl ?_
  refine rm_callvV (As := [.ref (ad k2 (d2 + 20) 2)]) (rest := []) hc dX1_copyFrom_19 (c_X5_copyFrom hI y_4 (k := k) (d := d) (s0 := 2) (k2 := k2) (d2 := d2) (by omega) (by omega) (by omega) (by omega) (by omega) (by omega) (by omega) hkk (by subst_vars; first | exact hfl _ (by omega) | (simp only [cpS_b hkk]; exact hfl _ (by omega)))) mv_X1_18 (dm_s (d := d) (by omega) (by omega) (by omega) (by omega)) rfl rfl (hn := rfl) (hst := rfl) (hw := Nat.le_of_ble_eq_true rfl) (hR := ⟨⟨rfl, rfl⟩, Nat.le_of_ble_eq_true rfl, Nat.le_of_ble_eq_true rfl⟩) (hnc := ⟨Nat.zero_le _, Nat.zero_le _⟩) (fun y_6 h_6 => ?_)
  refine rm_iinc (v := 3) (ls' := [(0, .ref (ad k 4 d)), (1, .ref (ad k2 4 d2)), (2, .int 3)]) hc dX1_copyFrom_22 rfl (by decide) (by decide) rfl ?_
  refine rm_goto (tgt := 2) hc dX1_copyFrom_25 (by decide) ?_
  refine rm_iload_n hc dX1_copyFrom_2 rfl rfl ?_
  refine rm_iconst (v := 4) hc dX1_copyFrom_3 (by decide) ?_
  refine rm_icmp_ge (tgt := 28) hc dX1_copyFrom_4 (by decide) (fun h => absurd h (by decide)) (fun _ => ?_)
  refine rm_aload_n hc dX1_copyFrom_7 rfl rfl ?_
  refine rm_get hc dX1_copyFrom_8 fl_X1_11 (dm_4 (by omega) (by omega) (by omega)) rfl rfl ?_
  refine rm_iload_n hc dX1_copyFrom_11 rfl rfl ?_
  refine rm_aald (t0 := 3) (i := 3) (v := .ref (ad k (d + 20) 3)) hc dX1_copyFrom_12 (dm_5 (by omega) (by omega) (by omega)) rfl rfl (by omega) (by decide) rfl rfl ?_
  refine rm_aload_n hc dX1_copyFrom_13 rfl rfl ?_
  refine rm_get hc dX1_copyFrom_14 fl_X1_11 (dm_4 (by omega) (by omega) (by omega)) rfl rfl ?_
  refine rm_iload_n hc dX1_copyFrom_17 rfl rfl ?_
  refine rm_aald (t0 := 3) (i := 3) (v := .ref (ad k2 (d2 + 20) 3)) hc dX1_copyFrom_18 (dm_5 (by omega) (by omega) (by omega)) rfl rfl (by omega) (by decide) rfl rfl ?_
  refine rm_callvV (As := [.ref (ad k2 (d2 + 20) 3)]) (rest := []) hc dX1_copyFrom_19 (c_X5_copyFrom hI y_6 (k := k) (d := d) (s0 := 3) (k2 := k2) (d2 := d2) (by omega) (by omega) (by omega) (by omega) (by omega) (by omega) (by omega) hkk (by subst_vars; first | exact hfl _ (by omega) | (simp only [cpS_b hkk]; exact hfl _ (by omega)))) mv_X1_18 (dm_s (d := d) (by omega) (by omega) (by omega) (by omega)) rfl rfl (hn := rfl) (hst := rfl) (hw := Nat.le_of_ble_eq_true rfl) (hR := ⟨⟨rfl, rfl⟩, Nat.le_of_ble_eq_true rfl, Nat.le_of_ble_eq_true rfl⟩) (hnc := ⟨Nat.zero_le _, Nat.zero_le _⟩) (fun y_8 h_8 => ?_)
  refine rm_iinc (v := 4) (ls' := [(0, .ref (ad k 4 d)), (1, .ref (ad k2 4 d2)), (2, .int 4)]) hc dX1_copyFrom_22 rfl (by decide) (by decide) rfl ?_
  refine rm_goto (tgt := 2) hc dX1_copyFrom_25 (by decide) ?_
  refine rm_iload_n hc dX1_copyFrom_2 rfl rfl ?_
  refine rm_iconst (v := 4) hc dX1_copyFrom_3 (by decide) ?_
  refine rm_icmp_ge (tgt := 28) hc dX1_copyFrom_4 (by decide) (fun _ => ?_) (fun h => absurd (by decide) h)
  refine rm_aload_n hc dX1_copyFrom_28 rfl rfl ?_
  refine rm_aload_n hc dX1_copyFrom_29 rfl rfl ?_
  refine rm_geti hc dX1_copyFrom_30 fl_X1_22 (dm_4 (by omega) (by omega) (by omega)) rfl rfl (fun v_10 e_10 => ?_)
  refine rm_put hc dX1_copyFrom_33 fl_X1_22 (dm_4 (by omega) (by omega) (by omega)) rfl (Nat.le_of_ble_eq_true rfl) ft_1_1 (nrb (by subst_vars; simp only [cpS_b hkk]; exact hfo)) (ftb (by subst_vars; simp only [cpS_b hkk]; exact hfo)) (so_4_1 (by omega) (by omega)) (rm_nm (fun x_11 ex_11 => ?_))
  refine rm_aload_n hc dX1_copyFrom_36 rfl rfl ?_
  refine rm_aload_n hc dX1_copyFrom_37 rfl rfl ?_
  refine rm_geti hc dX1_copyFrom_38 fl_X1_26 (dm_4 (by omega) (by omega) (by omega)) rfl rfl (fun v_12 e_12 => ?_)
  refine rm_put hc dX1_copyFrom_41 fl_X1_26 (dm_4 (by omega) (by omega) (by omega)) rfl (Nat.le_of_ble_eq_true rfl) ft_1_2 rfl rfl (so_4_2 (by omega) (by omega)) (rm_nm (fun x_13 ex_13 => ?_))
  refine rm_aload_n hc dX1_copyFrom_44 rfl rfl ?_
  refine rm_aload_n hc dX1_copyFrom_45 rfl rfl ?_
  refine rm_geti hc dX1_copyFrom_46 fl_X1_30 (dm_4 (by omega) (by omega) (by omega)) rfl rfl (fun v_14 e_14 => ?_)
  refine rm_put hc dX1_copyFrom_49 fl_X1_30 (dm_4 (by omega) (by omega) (by omega)) rfl (Nat.le_of_ble_eq_true rfl) ft_1_3 rfl rfl (so_4_3 (by omega) (by omega)) (rm_nm (fun x_15 ex_15 => ?_))
  refine rm_aload_n hc dX1_copyFrom_52 rfl rfl ?_
  refine rm_aload_n hc dX1_copyFrom_53 rfl rfl ?_
  refine rm_geti hc dX1_copyFrom_54 fl_X1_33 (dm_4 (by omega) (by omega) (by omega)) rfl rfl (fun v_16 e_16 => ?_)
  refine rm_put hc dX1_copyFrom_57 fl_X1_33 (dm_4 (by omega) (by omega) (by omega)) rfl (Nat.le_of_ble_eq_true rfl) ft_1_4 rfl rfl (so_4_4 (by omega) (by omega)) (rm_nm (fun x_17 ex_17 => ?_))
  refine rm_aload_n hc dX1_copyFrom_60 rfl rfl ?_
  refine rm_aload_n hc dX1_copyFrom_61 rfl rfl ?_
  refine rm_geti hc dX1_copyFrom_62 fl_X1_36 (dm_4 (by omega) (by omega) (by omega)) rfl rfl (fun v_18 e_18 => ?_)
  refine rm_put hc dX1_copyFrom_65 fl_X1_36 (dm_4 (by omega) (by omega) (by omega)) rfl (Nat.le_of_ble_eq_true rfl) ft_1_5 rfl rfl (so_4_5 (by omega) (by omega)) (rm_nm (fun x_19 ex_19 => ?_))
  refine rm_aload_n hc dX1_copyFrom_68 rfl rfl ?_
  refine rm_aload_n hc dX1_copyFrom_69 rfl rfl ?_
  refine rm_geti hc dX1_copyFrom_70 fl_X1_39 (dm_4 (by omega) (by omega) (by omega)) rfl rfl (fun v_20 e_20 => ?_)
  refine rm_put hc dX1_copyFrom_73 fl_X1_39 (dm_4 (by omega) (by omega) (by omega)) rfl (Nat.le_of_ble_eq_true rfl) ft_1_6 rfl rfl (so_4_6 (by omega) (by omega)) (rm_nm (fun x_21 ex_21 => ?_))
  exact rm_vret hc dX1_copyFrom_76 (by subst_vars; rw [show 31 + 22 * d = 30 + 22 * d + 1 by omega, show 32 + 22 * d = 30 + 22 * d + 2 by omega, show 33 + 22 * d = 30 + 22 * d + 3 by omega, show 34 + 22 * d = 30 + 22 * d + 4 by omega, show 35 + 22 * d = 30 + 22 * d + 5 by omega, show 36 + 22 * d + 4 * 0 = 30 + 22 * d + 6 by omega, show 36 + 22 * d + 4 * 1 = 30 + 22 * d + 10 by omega, show 36 + 22 * d + 4 * 2 = 30 + 22 * d + 14 by omega, show 36 + 22 * d + 4 * 3 = 30 + 22 * d + 18 by omega, show 31 + 22 * d2 = 30 + 22 * d2 + 1 by omega, show 32 + 22 * d2 = 30 + 22 * d2 + 2 by omega, show 33 + 22 * d2 = 30 + 22 * d2 + 3 by omega, show 34 + 22 * d2 = 30 + 22 * d2 + 4 by omega, show 35 + 22 * d2 = 30 + 22 * d2 + 5 by omega, show 36 + 22 * d2 + 4 * 0 = 30 + 22 * d2 + 6 by omega, show 36 + 22 * d2 + 4 * 1 = 30 + 22 * d2 + 10 by omega, show 36 + 22 * d2 + 4 * 2 = 30 + 22 * d2 + 14 by omega, show 36 + 22 * d2 + 4 * 3 = 30 + 22 * d2 + 18 by omega, cpn_6 hkk, cpDoor hkk])

abbrev rm_X1_learntSlots : Room := { frames := 1, cells := 0, slots := 0, locals := 21 }
set_option maxHeartbeats 4000000 in
set_option maxRecDepth 100000 in
theorem c_X1_learntSlots {l : Launch} {D : va_G} {cy : Nat → ClassId} {ad : Ads} (hI : IJ ad) (x : Mem) {k d : Nat} (hk : k < 8) (hd3 : d < 3) (hkd : k = 7 → d = 0) : Cti l yX1_learntSlots cX1_learntSlots 6 (some .int) rm_X1_learntSlots D cy ad [.ref (ad k 4 d)] x (fun r y => r = lrnD x k d ∧ y = x) := by
  refine rm_entry (Qc := Qi D cy ad (fun r y => r = lrnD x k d ∧ y = x)) hI (by decide) (Nat.le_of_ble_eq_true rfl) ?_
  intro p e s m args below meth c hc
  show RM _ _ _ _ _ _ _ _ _ _ _ _ _ _ _ _ _ [(0, .ref (ad k 4 d))] []
  refine rm_iconst (v := 0) hc dX1_learntSlots_0 (by decide) ?_
  refine rm_istore_n (ls' := [(0, .ref (ad k 4 d)), (1, .int 0)]) hc dX1_learntSlots_1 rfl (by decide) rfl ?_
  refine rm_aload_n hc dX1_learntSlots_2 rfl rfl ?_
  refine rm_get hc dX1_learntSlots_3 fl_X1_11 (dm_4 (by omega) (by omega) (by omega)) rfl rfl ?_
  refine rm_astore_n (ls' := [(0, .ref (ad k 4 d)), (1, .int 0), (2, .ref (ad k 5 d))]) hc dX1_learntSlots_6 rfl (by decide) rfl ?_
  refine rm_aload_n hc dX1_learntSlots_7 rfl rfl ?_
  refine rm_alen (n := 0) (t0 := 3) (v := 4) hc dX1_learntSlots_8 (dm_5 (by omega) (by omega) (by omega)) rfl rfl rfl ?_
  refine rm_istore_n (ls' := [(0, .ref (ad k 4 d)), (1, .int 0), (2, .ref (ad k 5 d)), (3, .int 4)]) hc dX1_learntSlots_9 rfl (by decide) rfl ?_
  refine rm_iconst (v := 0) hc dX1_learntSlots_10 (by decide) ?_
  refine rm_istore (ls' := [(0, .ref (ad k 4 d)), (1, .int 0), (2, .ref (ad k 5 d)), (3, .int 4), (4, .int 0)]) hc dX1_learntSlots_11 (by decide) rfl ?_
  refine rm_iload hc dX1_learntSlots_13 rfl ?_
  refine rm_iload_n hc dX1_learntSlots_15 rfl rfl ?_
  refine rm_icmp_ge (tgt := 40) hc dX1_learntSlots_16 (by decide) (fun h => absurd h (by decide)) (fun _ => ?_)
  refine rm_aload_n hc dX1_learntSlots_19 rfl rfl ?_
  refine rm_iload hc dX1_learntSlots_20 rfl ?_
  refine rm_aald (t0 := 3) (i := 0) (v := .ref (ad k (d + 20) 0)) hc dX1_learntSlots_22 (dm_5 (by omega) (by omega) (by omega)) rfl rfl (by omega) (by decide) rfl rfl ?_
  refine rm_astore (ls' := [(0, .ref (ad k 4 d)), (1, .int 0), (2, .ref (ad k 5 d)), (3, .int 4), (4, .int 0), (5, .ref (ad k (d + 20) 0))]) hc dX1_learntSlots_23 (by decide) rfl ?_
  refine rm_iload_n hc dX1_learntSlots_25 rfl rfl ?_
  refine rm_aload hc dX1_learntSlots_26 rfl ?_
  refine rm_iconst (v := 0) hc dX1_learntSlots_28 (by decide) ?_
  refine rm_calliV (As := [.int 0]) (rest := [.int 0]) hc dX1_learntSlots_29 (c_X5_look hI x (k := k) (d := d) (s0 := 0) (by omega) (by omega) (by omega) (by omega) 0) mv_X1_47 (dm_s (d := d) (by omega) (by omega) (by omega) (by omega)) rfl rfl (hn := rfl) (hst := rfl) (hw := Nat.le_of_ble_eq_true rfl) (hR := ⟨⟨rfl, rfl⟩, Nat.le_of_ble_eq_true rfl, Nat.le_of_ble_eq_true rfl⟩) (hnc := ⟨Nat.zero_le _, Nat.zero_le _⟩) (fun r_2 y_2 h_2 => ?_)
  obtain ⟨e_2, ey_2⟩ := h_2
  obtain rfl := ey_2.symm
  refine rm_iadd hc dX1_learntSlots_32 (fun v_3 e_3 => ?_)
  refine rm_istore_n (ls' := [(0, .ref (ad k 4 d)), (1, .int v_3), (2, .ref (ad k 5 d)), (3, .int 4), (4, .int 0), (5, .ref (ad k (d + 20) 0))]) hc dX1_learntSlots_33 rfl (by decide) rfl ?_
  refine rm_iinc (v := 1) (ls' := [(0, .ref (ad k 4 d)), (1, .int v_3), (2, .ref (ad k 5 d)), (3, .int 4), (4, .int 1), (5, .ref (ad k (d + 20) 0))]) hc dX1_learntSlots_34 rfl (by decide) (by decide) rfl ?_
  refine rm_goto (tgt := 13) hc dX1_learntSlots_37 (by decide) ?_
  refine rm_iload hc dX1_learntSlots_13 rfl ?_
  refine rm_iload_n hc dX1_learntSlots_15 rfl rfl ?_
  refine rm_icmp_ge (tgt := 40) hc dX1_learntSlots_16 (by decide) (fun h => absurd h (by decide)) (fun _ => ?_)
  refine rm_aload_n hc dX1_learntSlots_19 rfl rfl ?_
  refine rm_iload hc dX1_learntSlots_20 rfl ?_
  refine rm_aald (t0 := 3) (i := 1) (v := .ref (ad k (d + 20) 1)) hc dX1_learntSlots_22 (dm_5 (by omega) (by omega) (by omega)) rfl rfl (by omega) (by decide) rfl rfl ?_
  refine rm_astore (ls' := [(0, .ref (ad k 4 d)), (1, .int v_3), (2, .ref (ad k 5 d)), (3, .int 4), (4, .int 1), (5, .ref (ad k (d + 20) 1))]) hc dX1_learntSlots_23 (by decide) rfl ?_
  refine rm_iload_n hc dX1_learntSlots_25 rfl rfl ?_
  refine rm_aload hc dX1_learntSlots_26 rfl ?_
  refine rm_iconst (v := 0) hc dX1_learntSlots_28 (by decide) ?_
  refine rm_calliV (As := [.int 0]) (rest := [.int v_3]) hc dX1_learntSlots_29 (c_X5_look hI x (k := k) (d := d) (s0 := 1) (by omega) (by omega) (by omega) (by omega) 0) mv_X1_47 (dm_s (d := d) (by omega) (by omega) (by omega) (by omega)) rfl rfl (hn := rfl) (hst := rfl) (hw := Nat.le_of_ble_eq_true rfl) (hR := ⟨⟨rfl, rfl⟩, Nat.le_of_ble_eq_true rfl, Nat.le_of_ble_eq_true rfl⟩) (hnc := ⟨Nat.zero_le _, Nat.zero_le _⟩) (fun r_5 y_5 h_5 => ?_)
  obtain ⟨e_5, ey_5⟩ := h_5
  obtain rfl := ey_5.symm
  refine rm_iadd hc dX1_learntSlots_32 (fun v_6 e_6 => ?_)
  refine rm_istore_n (ls' := [(0, .ref (ad k 4 d)), (1, .int v_6), (2, .ref (ad k 5 d)), (3, .int 4), (4, .int 1), (5, .ref (ad k (d + 20) 1))]) hc dX1_learntSlots_33 rfl (by decide) rfl ?_
  refine rm_iinc (v := 2) (ls' := [(0, .ref (ad k 4 d)), (1, .int v_6), (2, .ref (ad k 5 d)), (3, .int 4), (4, .int 2), (5, .ref (ad k (d + 20) 1))]) hc dX1_learntSlots_34 rfl (by decide) (by decide) rfl ?_
  refine rm_goto (tgt := 13) hc dX1_learntSlots_37 (by decide) ?_
  refine rm_iload hc dX1_learntSlots_13 rfl ?_
  refine rm_iload_n hc dX1_learntSlots_15 rfl rfl ?_
  refine rm_icmp_ge (tgt := 40) hc dX1_learntSlots_16 (by decide) (fun h => absurd h (by decide)) (fun _ => ?_)
  refine rm_aload_n hc dX1_learntSlots_19 rfl rfl ?_
  refine rm_iload hc dX1_learntSlots_20 rfl ?_
  refine rm_aald (t0 := 3) (i := 2) (v := .ref (ad k (d + 20) 2)) hc dX1_learntSlots_22 (dm_5 (by omega) (by omega) (by omega)) rfl rfl (by omega) (by decide) rfl rfl ?_
  refine rm_astore (ls' := [(0, .ref (ad k 4 d)), (1, .int v_6), (2, .ref (ad k 5 d)), (3, .int 4), (4, .int 2), (5, .ref (ad k (d + 20) 2))]) hc dX1_learntSlots_23 (by decide) rfl ?_
  refine rm_iload_n hc dX1_learntSlots_25 rfl rfl ?_
  refine rm_aload hc dX1_learntSlots_26 rfl ?_
  refine rm_iconst (v := 0) hc dX1_learntSlots_28 (by decide) ?_
  refine rm_calliV (As := [.int 0]) (rest := [.int v_6]) hc dX1_learntSlots_29 (c_X5_look hI x (k := k) (d := d) (s0 := 2) (by omega) (by omega) (by omega) (by omega) 0) mv_X1_47 (dm_s (d := d) (by omega) (by omega) (by omega) (by omega)) rfl rfl (hn := rfl) (hst := rfl) (hw := Nat.le_of_ble_eq_true rfl) (hR := ⟨⟨rfl, rfl⟩, Nat.le_of_ble_eq_true rfl, Nat.le_of_ble_eq_true rfl⟩) (hnc := ⟨Nat.zero_le _, Nat.zero_le _⟩) (fun r_8 y_8 h_8 => ?_)
  obtain ⟨e_8, ey_8⟩ := h_8
  obtain rfl := ey_8.symm
  refine rm_iadd hc dX1_learntSlots_32 (fun v_9 e_9 => ?_)
  refine rm_istore_n (ls' := [(0, .ref (ad k 4 d)), (1, .int v_9), (2, .ref (ad k 5 d)), (3, .int 4), (4, .int 2), (5, .ref (ad k (d + 20) 2))]) hc dX1_learntSlots_33 rfl (by decide) rfl ?_
  refine rm_iinc (v := 3) (ls' := [(0, .ref (ad k 4 d)), (1, .int v_9), (2, .ref (ad k 5 d)), (3, .int 4), (4, .int 3), (5, .ref (ad k (d + 20) 2))]) hc dX1_learntSlots_34 rfl (by decide) (by decide) rfl ?_
  refine rm_goto (tgt := 13) hc dX1_learntSlots_37 (by decide) ?_
  refine rm_iload hc dX1_learntSlots_13 rfl ?_
  refine rm_iload_n hc dX1_learntSlots_15 rfl rfl ?_
  refine rm_icmp_ge (tgt := 40) hc dX1_learntSlots_16 (by decide) (fun h => absurd h (by decide)) (fun _ => ?_)
  refine rm_aload_n hc dX1_learntSlots_19 rfl rfl ?_
  refine rm_iload hc dX1_learntSlots_20 rfl ?_
  refine rm_aald (t0 := 3) (i := 3) (v := .ref (ad k (d + 20) 3)) hc dX1_learntSlots_22 (dm_5 (by omega) (by omega) (by omega)) rfl rfl (by omega) (by decide) rfl rfl ?_
  refine rm_astore (ls' := [(0, .ref (ad k 4 d)), (1, .int v_9), (2, .ref (ad k 5 d)), (3, .int 4), (4, .int 3), (5, .ref (ad k (d + 20) 3))]) hc dX1_learntSlots_23 (by decide) rfl ?_
  refine rm_iload_n hc dX1_learntSlots_25 rfl rfl ?_
  refine rm_aload hc dX1_learntSlots_26 rfl ?_
  refine rm_iconst (v := 0) hc dX1_learntSlots_28 (by decide) ?_
  refine rm_calliV (As := [.int 0]) (rest := [.int v_9]) hc dX1_learntSlots_29 (c_X5_look hI x (k := k) (d := d) (s0 := 3) (by omega) (by omega) (by omega) (by omega) 0) mv_X1_47 (dm_s (d := d) (by omega) (by omega) (by omega) (by omega)) rfl rfl (hn := rfl) (hst := rfl) (hw := Nat.le_of_ble_eq_true rfl) (hR := ⟨⟨rfl, rfl⟩, Nat.le_of_ble_eq_true rfl, Nat.le_of_ble_eq_true rfl⟩) (hnc := ⟨Nat.zero_le _, Nat.zero_le _⟩) (fun r_11 y_11 h_11 => ?_)
  obtain ⟨e_11, ey_11⟩ := h_11
  obtain rfl := ey_11.symm
  refine rm_iadd hc dX1_learntSlots_32 (fun v_12 e_12 => ?_)
  refine rm_istore_n (ls' := [(0, .ref (ad k 4 d)), (1, .int v_12), (2, .ref (ad k 5 d)), (3, .int 4), (4, .int 3), (5, .ref (ad k (d + 20) 3))]) hc dX1_learntSlots_33 rfl (by decide) rfl ?_
  refine rm_iinc (v := 4) (ls' := [(0, .ref (ad k 4 d)), (1, .int v_12), (2, .ref (ad k 5 d)), (3, .int 4), (4, .int 4), (5, .ref (ad k (d + 20) 3))]) hc dX1_learntSlots_34 rfl (by decide) (by decide) rfl ?_
  refine rm_goto (tgt := 13) hc dX1_learntSlots_37 (by decide) ?_
  refine rm_iload hc dX1_learntSlots_13 rfl ?_
  refine rm_iload_n hc dX1_learntSlots_15 rfl rfl ?_
  refine rm_icmp_ge (tgt := 40) hc dX1_learntSlots_16 (by decide) (fun _ => ?_) (fun h => absurd (by decide) h)
  refine rm_iload_n hc dX1_learntSlots_40 rfl rfl ?_
  exact rm_iret hc dX1_learntSlots_41 ⟨by subst_vars; rfl, rfl⟩

abbrev rm_X1_look : Room := { frames := 2, cells := 0, slots := 0, locals := 46 }
set_option maxHeartbeats 4000000 in
set_option maxRecDepth 100000 in
theorem c_X1_look {l : Launch} {D : va_G} {cy : Nat → ClassId} {ad : Ads} (hI : IJ ad) (x : Mem) {k d k2 : Nat} (hk : k < 8) (hd3 : d < 3) (hkd : k = 7 → d = 0) (hk2 : k2 < 7) (w : Int32) : Cti l yX1_look cX1_look 3 (some .int) rm_X1_look D cy ad [.ref (ad k 4 d), .int w, .ref (ad k2 8 0)] x (fun r y => r = lookDoor x k d (x k2 2) w ∧ y = x) := by
  refine rm_entry (Qc := Qi D cy ad (fun r y => r = lookDoor x k d (x k2 2) w ∧ y = x)) hI (by decide) (Nat.le_of_ble_eq_true rfl) ?_
  intro p e s m args below meth c hc
  show RM _ _ _ _ _ _ _ _ _ _ _ _ _ _ _ _ _ [(0, .ref (ad k 4 d)), (1, .int w), (2, .ref (ad k2 8 0))] []
  refine rm_iload_n hc dX1_look_0 rfl rfl ?_
  by_cases z_1 : w = 0
  · --case 0
    subst z_1
    refine rm_tin (off := 47) (tgt := 48) hc dX1_look_1 (by decide) (by decide) (by decide) (by decide) ?_
    refine rm_aload_n hc dX1_look_48 rfl rfl ?_
    refine rm_geti hc dX1_look_49 fl_X1_22 (dm_4 (by omega) (by omega) (by omega)) rfl rfl (fun v_2 e_2 => ?_)
    refine rm_if_eq (tgt := 59) hc dX1_look_52 (by decide) (fun c_3 => ?_) (fun c_3 => ?_)
    · --T
      refine rm_iconst (v := 0) hc dX1_look_59 (by decide) ?_
      exact rm_iret hc dX1_look_60 ⟨by subst_vars; simp [lookDoor, *], rfl⟩
    · --F
      refine rm_iconst (v := 1) hc dX1_look_55 (by decide) ?_
      refine rm_goto (tgt := 60) hc dX1_look_56 (by decide) ?_
      exact rm_iret hc dX1_look_60 ⟨by subst_vars; simp [lookDoor, *], rfl⟩
  by_cases z_4 : w = 1
  · --case 1
    subst z_4
    refine rm_tin (off := 60) (tgt := 61) hc dX1_look_1 (by decide) (by decide) (by decide) (by decide) ?_
    refine rm_aload_n hc dX1_look_61 rfl rfl ?_
    refine rm_geti hc dX1_look_62 fl_X1_26 (dm_4 (by omega) (by omega) (by omega)) rfl rfl (fun v_5 e_5 => ?_)
    exact rm_iret hc dX1_look_65 ⟨by subst_vars; simp [lookDoor, *], rfl⟩
  by_cases z_6 : w = 2
  · --case 2
    subst z_6
    refine rm_tin (off := 65) (tgt := 66) hc dX1_look_1 (by decide) (by decide) (by decide) (by decide) ?_
    refine rm_aload_n hc dX1_look_66 rfl rfl ?_
    refine rm_aload_n hc dX1_look_67 rfl rfl ?_
    refine rm_calliV (As := [.ref (ad k2 8 0)]) (rest := []) hc dX1_look_68 (c_X1_isLocked hI x (k := k) (d := d) (k2 := k2) (by omega) (by omega) (by omega) (by omega)) mv_X1_51 (dm_4 (by omega) (by omega) (by omega)) rfl rfl (hn := rfl) (hst := rfl) (hw := Nat.le_of_ble_eq_true rfl) (hR := ⟨⟨rfl, rfl⟩, Nat.le_of_ble_eq_true rfl, Nat.le_of_ble_eq_true rfl⟩) (hnc := ⟨Nat.zero_le _, Nat.zero_le _⟩) (fun r_7 y_7 h_7 => ?_)
    obtain ⟨e_7, ey_7⟩ := h_7
    obtain rfl := ey_7.symm
    refine rm_if_eq (tgt := 78) hc dX1_look_71 (by decide) (fun c_8 => ?_) (fun c_8 => ?_)
    · --T
      refine rm_iconst (v := 0) hc dX1_look_78 (by decide) ?_
      exact rm_iret hc dX1_look_79 ⟨by subst_vars; simp [lookDoor, *], rfl⟩
    · --F
      refine rm_iconst (v := 1) hc dX1_look_74 (by decide) ?_
      refine rm_goto (tgt := 79) hc dX1_look_75 (by decide) ?_
      exact rm_iret hc dX1_look_79 ⟨by subst_vars; simp [lookDoor, *], rfl⟩
  by_cases z_9 : w = 3
  · --case 3
    subst z_9
    refine rm_tin (off := 79) (tgt := 80) hc dX1_look_1 (by decide) (by decide) (by decide) (by decide) ?_
    refine rm_aload_n hc dX1_look_80 rfl rfl ?_
    refine rm_calliV (As := []) (rest := []) hc dX1_look_81 (c_X1_learntSlots hI x (k := k) (d := d) (by omega) (by omega) (by omega)) mv_X1_69 (dm_4 (by omega) (by omega) (by omega)) rfl rfl (hn := rfl) (hst := rfl) (hw := Nat.le_of_ble_eq_true rfl) (hR := ⟨⟨rfl, rfl⟩, Nat.le_of_ble_eq_true rfl, Nat.le_of_ble_eq_true rfl⟩) (hnc := ⟨Nat.zero_le _, Nat.zero_le _⟩) (fun r_10 y_10 h_10 => ?_)
    obtain ⟨e_10, ey_10⟩ := h_10
    obtain rfl := ey_10.symm
    exact rm_iret hc dX1_look_84 ⟨by subst_vars; simp [lookDoor, *], rfl⟩
  by_cases z_11 : w = 4
  · --case 4
    subst z_11
    refine rm_tin (off := 84) (tgt := 85) hc dX1_look_1 (by decide) (by decide) (by decide) (by decide) ?_
    refine rm_aload_n hc dX1_look_85 rfl rfl ?_
    refine rm_geti hc dX1_look_86 fl_X1_30 (dm_4 (by omega) (by omega) (by omega)) rfl rfl (fun v_12 e_12 => ?_)
    exact rm_iret hc dX1_look_89 ⟨by subst_vars; simp [lookDoor, *], rfl⟩
  by_cases z_13 : w = 5
  · --case 5
    subst z_13
    refine rm_tin (off := 89) (tgt := 90) hc dX1_look_1 (by decide) (by decide) (by decide) (by decide) ?_
    refine rm_aload_n hc dX1_look_90 rfl rfl ?_
    refine rm_geti hc dX1_look_91 fl_X1_33 (dm_4 (by omega) (by omega) (by omega)) rfl rfl (fun v_14 e_14 => ?_)
    exact rm_iret hc dX1_look_94 ⟨by subst_vars; simp [lookDoor, *], rfl⟩
  by_cases z_15 : w = 6
  · --case 6
    subst z_15
    refine rm_tin (off := 94) (tgt := 95) hc dX1_look_1 (by decide) (by decide) (by decide) (by decide) ?_
    refine rm_aload_n hc dX1_look_95 rfl rfl ?_
    refine rm_geti hc dX1_look_96 fl_X1_36 (dm_4 (by omega) (by omega) (by omega)) rfl rfl (fun v_16 e_16 => ?_)
    exact rm_iret hc dX1_look_99 ⟨by subst_vars; simp [lookDoor, *], rfl⟩
  by_cases z_17 : w = 7
  · --case 7
    subst z_17
    refine rm_tin (off := 99) (tgt := 100) hc dX1_look_1 (by decide) (by decide) (by decide) (by decide) ?_
    refine rm_aload_n hc dX1_look_100 rfl rfl ?_
    refine rm_geti hc dX1_look_101 fl_X1_39 (dm_4 (by omega) (by omega) (by omega)) rfl rfl (fun v_18 e_18 => ?_)
    exact rm_iret hc dX1_look_104 ⟨by subst_vars; simp [lookDoor, *], rfl⟩
  refine rm_tout (tgt := 105) hc dX1_look_1 (by have zz0 := lv_neT (k := 0) (a := 0) z_1 (by decide); have zz1 := lv_neT (k := 1) (a := 1) z_4 (by decide); have zz2 := lv_neT (k := 2) (a := 2) z_6 (by decide); have zz3 := lv_neT (k := 3) (a := 3) z_9 (by decide); have zz4 := lv_neT (k := 4) (a := 4) z_11 (by decide); have zz5 := lv_neT (k := 5) (a := 5) z_13 (by decide); have zz6 := lv_neT (k := 6) (a := 6) z_15 (by decide); have zz7 := lv_neT (k := 7) (a := 7) z_17 (by decide); omega) (by decide) ?_
  refine rm_iconst (v := -1) hc dX1_look_105 (by decide) ?_
  exact rm_iret hc dX1_look_106 ⟨by subst_vars; simp [lookDoor, *], rfl⟩

abbrev rm_X1_hear : Room := { frames := 2, cells := 0, slots := 0, locals := 45 }
set_option maxHeartbeats 4000000 in
set_option maxRecDepth 100000 in
theorem c_X1_hear {l : Launch} {D : va_G} {cy : Nat → ClassId} {ad : Ads} (hI : IJ ad) (x : Mem) {k d k2 : Nat} (hk : k < 8) (hd3 : d < 3) (hkd : k = 7 → d = 0) (hk2 : k2 < 7) (num wv : Int32) (mm : Nat) (hmm : mm < 2 ^ 30) (hw : x k2 1 = nI mm) (ew : wv = x k2 0) : Cti l yX1_hear cX1_hear 8 (some .int) rm_X1_hear D cy ad [.ref (ad k 4 d), .int num, .ref (ad k2 8 0)] x (fun r y => r = hrR x k d k2 num mm ∧ y = hrM x k d k2 num mm) := by
  refine rm_entry (Qc := Qi D cy ad (fun r y => r = hrR x k d k2 num mm ∧ y = hrM x k d k2 num mm)) hI (by decide) (Nat.le_of_ble_eq_true rfl) ?_
  intro p e s m args below meth c hc
  show RM _ _ _ _ _ _ _ _ _ _ _ _ _ _ _ _ _ [(0, .ref (ad k 4 d)), (1, .int num), (2, .ref (ad k2 8 0))] []
  refine rm_aload_n hc dX1_hear_0 rfl rfl ?_
  refine rm_aload_n hc dX1_hear_1 rfl rfl ?_
  refine rm_calliV (As := [.ref (ad k2 8 0)]) (rest := []) hc dX1_hear_2 (c_X1_isLocked hI x (k := k) (d := d) (k2 := k2) (by omega) (by omega) (by omega) (by omega)) mv_X1_51 (dm_4 (by omega) (by omega) (by omega)) rfl rfl (hn := rfl) (hst := rfl) (hw := Nat.le_of_ble_eq_true rfl) (hR := ⟨⟨rfl, rfl⟩, Nat.le_of_ble_eq_true rfl, Nat.le_of_ble_eq_true rfl⟩) (hnc := ⟨Nat.zero_le _, Nat.zero_le _⟩) (fun r_1 y_1 h_1 => ?_)
  obtain ⟨e_1, ey_1⟩ := h_1
  obtain rfl := ey_1.symm
  refine rm_if_eq (tgt := 20) hc dX1_hear_5 (by decide) (fun c_2 => ?_) (fun c_2 => ?_)
  · --open
    have hL : lockS (x k2 2) (x k (31 + 22 * d)) = 0 := e_1.symm.trans c_2
    refine rm_aload_n hc dX1_hear_20 rfl rfl ?_
    refine rm_get hc dX1_hear_21 fl_X1_11 (dm_4 (by omega) (by omega) (by omega)) rfl rfl ?_
    refine rm_astore_n (ls' := [(0, .ref (ad k 4 d)), (1, .int num), (2, .ref (ad k2 8 0)), (3, .ref (ad k 5 d))]) hc dX1_hear_24 rfl (by decide) rfl ?_
    refine rm_aload_n hc dX1_hear_25 rfl rfl ?_
    refine rm_alen (n := 0) (t0 := 3) (v := 4) hc dX1_hear_26 (dm_5 (by omega) (by omega) (by omega)) rfl rfl rfl ?_
    refine rm_istore (ls' := [(0, .ref (ad k 4 d)), (1, .int num), (2, .ref (ad k2 8 0)), (3, .ref (ad k 5 d)), (4, .int 4)]) hc dX1_hear_27 (by decide) rfl ?_
    refine rm_iconst (v := 0) hc dX1_hear_29 (by decide) ?_
    refine rm_istore (ls' := [(0, .ref (ad k 4 d)), (1, .int num), (2, .ref (ad k2 8 0)), (3, .ref (ad k 5 d)), (4, .int 4), (5, .int 0)]) hc dX1_hear_30 (by decide) rfl ?_
    refine rm_iload hc dX1_hear_32 rfl ?_
    refine rm_iload hc dX1_hear_34 rfl ?_
    refine rm_icmp_ge (tgt := 121) hc dX1_hear_36 (by decide) (fun h => absurd h (by decide)) (fun _ => ?_)
    refine rm_aload_n hc dX1_hear_39 rfl rfl ?_
    refine rm_iload hc dX1_hear_40 rfl ?_
    refine rm_aald (t0 := 3) (i := 0) (v := .ref (ad k (d + 20) 0)) hc dX1_hear_42 (dm_5 (by omega) (by omega) (by omega)) rfl rfl (by omega) (by decide) rfl rfl ?_
    refine rm_astore (ls' := [(0, .ref (ad k 4 d)), (1, .int num), (2, .ref (ad k2 8 0)), (3, .ref (ad k 5 d)), (4, .int 4), (5, .int 0), (6, .ref (ad k (d + 20) 0))]) hc dX1_hear_43 (by decide) rfl ?_
    refine rm_aload hc dX1_hear_45 rfl ?_
    refine rm_iload_n hc dX1_hear_47 rfl rfl ?_
    refine rm_aload_n hc dX1_hear_48 rfl rfl ?_
    refine rm_geti hc dX1_hear_49 fl_X1_55 (dm_8 (by omega)) rfl rfl (fun v_4 e_4 => ?_)
    obtain rfl : v_4 = nI mm := e_4.trans hw
    refine rm_calliV (As := [.int num, .int (nI (mm))]) (rest := []) hc dX1_hear_52 (c_X5_stepsTo hI x (k := k) (d := d) (s0 := 0) (by omega) (by omega) (by omega) (by omega) num mm (by omega)) mv_X1_58 (dm_s (d := d) (by omega) (by omega) (by omega) (by omega)) rfl rfl (hn := rfl) (hst := rfl) (hw := Nat.le_of_ble_eq_true rfl) (hR := ⟨⟨rfl, rfl⟩, Nat.le_of_ble_eq_true rfl, Nat.le_of_ble_eq_true rfl⟩) (hnc := ⟨Nat.zero_le _, Nat.zero_le _⟩) (fun r_5 y_5 h_5 => ?_)
    obtain ⟨e_5, ey_5⟩ := h_5
    obtain rfl := ey_5.symm
    have hb_5 := stpS_le (x := x) (k := k) (d := d) (s := 0) (num := num) (mm := mm)
    obtain ⟨t_5, ht_5⟩ : ∃ t_5 : Nat, stpS x k d 0 num mm = t_5 := ⟨_, rfl⟩
    rw [ht_5] at e_5 hb_5
    obtain rfl := e_5
    refine rm_istore (ls' := [(0, .ref (ad k 4 d)), (1, .int num), (2, .ref (ad k2 8 0)), (3, .ref (ad k 5 d)), (4, .int 4), (5, .int 0), (6, .ref (ad k (d + 20) 0)), (7, .int (nI (t_5)))]) hc dX1_hear_55 (by decide) rfl ?_
    refine rm_iload hc dX1_hear_57 rfl ?_
    rcases Nat.eq_zero_or_pos t_5 with zt_5 | zt_5
    · --zero
      refine rm_if_le (tgt := 98) hc dX1_hear_59 (by decide) (fun _ => ?_) (fun h => absurd (by rw [zt_5]; decide) h)
      refine rm_iload hc dX1_hear_98 rfl ?_
      refine rm_if_le (tgt := 115) hc dX1_hear_100 (by decide) (fun _ => ?_) (fun h => absurd (by rw [zt_5]; decide) h)
      refine rm_iinc (v := 1) (ls' := [(0, .ref (ad k 4 d)), (1, .int num), (2, .ref (ad k2 8 0)), (3, .ref (ad k 5 d)), (4, .int 4), (5, .int 1), (6, .ref (ad k (d + 20) 0)), (7, .int (nI (t_5)))]) hc dX1_hear_115 rfl (by decide) (by decide) rfl ?_
      refine rm_goto (tgt := 32) hc dX1_hear_118 (by decide) ?_
      refine rm_iload hc dX1_hear_32 rfl ?_
      refine rm_iload hc dX1_hear_34 rfl ?_
      refine rm_icmp_ge (tgt := 121) hc dX1_hear_36 (by decide) (fun h => absurd h (by decide)) (fun _ => ?_)
      refine rm_aload_n hc dX1_hear_39 rfl rfl ?_
      refine rm_iload hc dX1_hear_40 rfl ?_
      refine rm_aald (t0 := 3) (i := 1) (v := .ref (ad k (d + 20) 1)) hc dX1_hear_42 (dm_5 (by omega) (by omega) (by omega)) rfl rfl (by omega) (by decide) rfl rfl ?_
      refine rm_astore (ls' := [(0, .ref (ad k 4 d)), (1, .int num), (2, .ref (ad k2 8 0)), (3, .ref (ad k 5 d)), (4, .int 4), (5, .int 1), (6, .ref (ad k (d + 20) 1)), (7, .int (nI (t_5)))]) hc dX1_hear_43 (by decide) rfl ?_
      refine rm_aload hc dX1_hear_45 rfl ?_
      refine rm_iload_n hc dX1_hear_47 rfl rfl ?_
      refine rm_aload_n hc dX1_hear_48 rfl rfl ?_
      refine rm_geti hc dX1_hear_49 fl_X1_55 (dm_8 (by omega)) rfl rfl (fun v_10 e_10 => ?_)
      obtain rfl : v_10 = nI mm := e_10.trans hw
      refine rm_calliV (As := [.int num, .int (nI (mm))]) (rest := []) hc dX1_hear_52 (c_X5_stepsTo hI x (k := k) (d := d) (s0 := 1) (by omega) (by omega) (by omega) (by omega) num mm (by omega)) mv_X1_58 (dm_s (d := d) (by omega) (by omega) (by omega) (by omega)) rfl rfl (hn := rfl) (hst := rfl) (hw := Nat.le_of_ble_eq_true rfl) (hR := ⟨⟨rfl, rfl⟩, Nat.le_of_ble_eq_true rfl, Nat.le_of_ble_eq_true rfl⟩) (hnc := ⟨Nat.zero_le _, Nat.zero_le _⟩) (fun r_11 y_11 h_11 => ?_)
      obtain ⟨e_11, ey_11⟩ := h_11
      obtain rfl := ey_11.symm
      have hb_11 := stpS_le (x := x) (k := k) (d := d) (s := 1) (num := num) (mm := mm)
      obtain ⟨t_11, ht_11⟩ : ∃ t_11 : Nat, stpS x k d 1 num mm = t_11 := ⟨_, rfl⟩
      rw [ht_11] at e_11 hb_11
      obtain rfl := e_11
      refine rm_istore (ls' := [(0, .ref (ad k 4 d)), (1, .int num), (2, .ref (ad k2 8 0)), (3, .ref (ad k 5 d)), (4, .int 4), (5, .int 1), (6, .ref (ad k (d + 20) 1)), (7, .int (nI (t_11)))]) hc dX1_hear_55 (by decide) rfl ?_
      refine rm_iload hc dX1_hear_57 rfl ?_
      rcases Nat.eq_zero_or_pos t_11 with zt_11 | zt_11
      · --zero
        refine rm_if_le (tgt := 98) hc dX1_hear_59 (by decide) (fun _ => ?_) (fun h => absurd (by rw [zt_11]; decide) h)
        refine rm_iload hc dX1_hear_98 rfl ?_
        refine rm_if_le (tgt := 115) hc dX1_hear_100 (by decide) (fun _ => ?_) (fun h => absurd (by rw [zt_11]; decide) h)
        refine rm_iinc (v := 2) (ls' := [(0, .ref (ad k 4 d)), (1, .int num), (2, .ref (ad k2 8 0)), (3, .ref (ad k 5 d)), (4, .int 4), (5, .int 2), (6, .ref (ad k (d + 20) 1)), (7, .int (nI (t_11)))]) hc dX1_hear_115 rfl (by decide) (by decide) rfl ?_
        refine rm_goto (tgt := 32) hc dX1_hear_118 (by decide) ?_
        refine rm_iload hc dX1_hear_32 rfl ?_
        refine rm_iload hc dX1_hear_34 rfl ?_
        refine rm_icmp_ge (tgt := 121) hc dX1_hear_36 (by decide) (fun h => absurd h (by decide)) (fun _ => ?_)
        refine rm_aload_n hc dX1_hear_39 rfl rfl ?_
        refine rm_iload hc dX1_hear_40 rfl ?_
        refine rm_aald (t0 := 3) (i := 2) (v := .ref (ad k (d + 20) 2)) hc dX1_hear_42 (dm_5 (by omega) (by omega) (by omega)) rfl rfl (by omega) (by decide) rfl rfl ?_
        refine rm_astore (ls' := [(0, .ref (ad k 4 d)), (1, .int num), (2, .ref (ad k2 8 0)), (3, .ref (ad k 5 d)), (4, .int 4), (5, .int 2), (6, .ref (ad k (d + 20) 2)), (7, .int (nI (t_11)))]) hc dX1_hear_43 (by decide) rfl ?_
        refine rm_aload hc dX1_hear_45 rfl ?_
        refine rm_iload_n hc dX1_hear_47 rfl rfl ?_
        refine rm_aload_n hc dX1_hear_48 rfl rfl ?_
        refine rm_geti hc dX1_hear_49 fl_X1_55 (dm_8 (by omega)) rfl rfl (fun v_16 e_16 => ?_)
        obtain rfl : v_16 = nI mm := e_16.trans hw
        refine rm_calliV (As := [.int num, .int (nI (mm))]) (rest := []) hc dX1_hear_52 (c_X5_stepsTo hI x (k := k) (d := d) (s0 := 2) (by omega) (by omega) (by omega) (by omega) num mm (by omega)) mv_X1_58 (dm_s (d := d) (by omega) (by omega) (by omega) (by omega)) rfl rfl (hn := rfl) (hst := rfl) (hw := Nat.le_of_ble_eq_true rfl) (hR := ⟨⟨rfl, rfl⟩, Nat.le_of_ble_eq_true rfl, Nat.le_of_ble_eq_true rfl⟩) (hnc := ⟨Nat.zero_le _, Nat.zero_le _⟩) (fun r_17 y_17 h_17 => ?_)
        obtain ⟨e_17, ey_17⟩ := h_17
        obtain rfl := ey_17.symm
        have hb_17 := stpS_le (x := x) (k := k) (d := d) (s := 2) (num := num) (mm := mm)
        obtain ⟨t_17, ht_17⟩ : ∃ t_17 : Nat, stpS x k d 2 num mm = t_17 := ⟨_, rfl⟩
        rw [ht_17] at e_17 hb_17
        obtain rfl := e_17
        refine rm_istore (ls' := [(0, .ref (ad k 4 d)), (1, .int num), (2, .ref (ad k2 8 0)), (3, .ref (ad k 5 d)), (4, .int 4), (5, .int 2), (6, .ref (ad k (d + 20) 2)), (7, .int (nI (t_17)))]) hc dX1_hear_55 (by decide) rfl ?_
        refine rm_iload hc dX1_hear_57 rfl ?_
        rcases Nat.eq_zero_or_pos t_17 with zt_17 | zt_17
        · --zero
          refine rm_if_le (tgt := 98) hc dX1_hear_59 (by decide) (fun _ => ?_) (fun h => absurd (by rw [zt_17]; decide) h)
          refine rm_iload hc dX1_hear_98 rfl ?_
          refine rm_if_le (tgt := 115) hc dX1_hear_100 (by decide) (fun _ => ?_) (fun h => absurd (by rw [zt_17]; decide) h)
          refine rm_iinc (v := 3) (ls' := [(0, .ref (ad k 4 d)), (1, .int num), (2, .ref (ad k2 8 0)), (3, .ref (ad k 5 d)), (4, .int 4), (5, .int 3), (6, .ref (ad k (d + 20) 2)), (7, .int (nI (t_17)))]) hc dX1_hear_115 rfl (by decide) (by decide) rfl ?_
          refine rm_goto (tgt := 32) hc dX1_hear_118 (by decide) ?_
          refine rm_iload hc dX1_hear_32 rfl ?_
          refine rm_iload hc dX1_hear_34 rfl ?_
          refine rm_icmp_ge (tgt := 121) hc dX1_hear_36 (by decide) (fun h => absurd h (by decide)) (fun _ => ?_)
          refine rm_aload_n hc dX1_hear_39 rfl rfl ?_
          refine rm_iload hc dX1_hear_40 rfl ?_
          refine rm_aald (t0 := 3) (i := 3) (v := .ref (ad k (d + 20) 3)) hc dX1_hear_42 (dm_5 (by omega) (by omega) (by omega)) rfl rfl (by omega) (by decide) rfl rfl ?_
          refine rm_astore (ls' := [(0, .ref (ad k 4 d)), (1, .int num), (2, .ref (ad k2 8 0)), (3, .ref (ad k 5 d)), (4, .int 4), (5, .int 3), (6, .ref (ad k (d + 20) 3)), (7, .int (nI (t_17)))]) hc dX1_hear_43 (by decide) rfl ?_
          refine rm_aload hc dX1_hear_45 rfl ?_
          refine rm_iload_n hc dX1_hear_47 rfl rfl ?_
          refine rm_aload_n hc dX1_hear_48 rfl rfl ?_
          refine rm_geti hc dX1_hear_49 fl_X1_55 (dm_8 (by omega)) rfl rfl (fun v_22 e_22 => ?_)
          obtain rfl : v_22 = nI mm := e_22.trans hw
          refine rm_calliV (As := [.int num, .int (nI (mm))]) (rest := []) hc dX1_hear_52 (c_X5_stepsTo hI x (k := k) (d := d) (s0 := 3) (by omega) (by omega) (by omega) (by omega) num mm (by omega)) mv_X1_58 (dm_s (d := d) (by omega) (by omega) (by omega) (by omega)) rfl rfl (hn := rfl) (hst := rfl) (hw := Nat.le_of_ble_eq_true rfl) (hR := ⟨⟨rfl, rfl⟩, Nat.le_of_ble_eq_true rfl, Nat.le_of_ble_eq_true rfl⟩) (hnc := ⟨Nat.zero_le _, Nat.zero_le _⟩) (fun r_23 y_23 h_23 => ?_)
          obtain ⟨e_23, ey_23⟩ := h_23
          obtain rfl := ey_23.symm
          have hb_23 := stpS_le (x := x) (k := k) (d := d) (s := 3) (num := num) (mm := mm)
          obtain ⟨t_23, ht_23⟩ : ∃ t_23 : Nat, stpS x k d 3 num mm = t_23 := ⟨_, rfl⟩
          rw [ht_23] at e_23 hb_23
          obtain rfl := e_23
          refine rm_istore (ls' := [(0, .ref (ad k 4 d)), (1, .int num), (2, .ref (ad k2 8 0)), (3, .ref (ad k 5 d)), (4, .int 4), (5, .int 3), (6, .ref (ad k (d + 20) 3)), (7, .int (nI (t_23)))]) hc dX1_hear_55 (by decide) rfl ?_
          refine rm_iload hc dX1_hear_57 rfl ?_
          rcases Nat.eq_zero_or_pos t_23 with zt_23 | zt_23
          · --zero
            refine rm_if_le (tgt := 98) hc dX1_hear_59 (by decide) (fun _ => ?_) (fun h => absurd (by rw [zt_23]; decide) h)
            refine rm_iload hc dX1_hear_98 rfl ?_
            refine rm_if_le (tgt := 115) hc dX1_hear_100 (by decide) (fun _ => ?_) (fun h => absurd (by rw [zt_23]; decide) h)
            refine rm_iinc (v := 4) (ls' := [(0, .ref (ad k 4 d)), (1, .int num), (2, .ref (ad k2 8 0)), (3, .ref (ad k 5 d)), (4, .int 4), (5, .int 4), (6, .ref (ad k (d + 20) 3)), (7, .int (nI (t_23)))]) hc dX1_hear_115 rfl (by decide) (by decide) rfl ?_
            refine rm_goto (tgt := 32) hc dX1_hear_118 (by decide) ?_
            refine rm_iload hc dX1_hear_32 rfl ?_
            refine rm_iload hc dX1_hear_34 rfl ?_
            refine rm_icmp_ge (tgt := 121) hc dX1_hear_36 (by decide) (fun _ => ?_) (fun h => absurd (by decide) h)
            refine rm_aload_n hc dX1_hear_121 rfl rfl ?_
            refine rm_dup hc dX1_hear_122 rfl ?_
            refine rm_geti hc dX1_hear_123 fl_X1_26 (dm_4 (by omega) (by omega) (by omega)) rfl rfl (fun v_28 e_28 => ?_)
            refine rm_iconst (v := 1) hc dX1_hear_126 (by decide) ?_
            refine rm_iadd hc dX1_hear_127 (fun v_29 e_29 => ?_)
            refine rm_put hc dX1_hear_128 fl_X1_26 (dm_4 (by omega) (by omega) (by omega)) rfl (Nat.le_of_ble_eq_true rfl) ft_1_2 rfl rfl (so_4_2 (by omega) (by omega)) (rm_nm (fun x_30 ex_30 => ?_))
            refine rm_aload_n hc dX1_hear_131 rfl rfl ?_
            refine rm_dup hc dX1_hear_132 rfl ?_
            refine rm_geti hc dX1_hear_133 fl_X1_36 (dm_4 (by omega) (by omega) (by omega)) rfl rfl (fun v_31 e_31 => ?_)
            refine rm_iconst (v := 1) hc dX1_hear_136 (by decide) ?_
            refine rm_iadd hc dX1_hear_137 (fun v_32 e_32 => ?_)
            refine rm_put hc dX1_hear_138 fl_X1_36 (dm_4 (by omega) (by omega) (by omega)) rfl (Nat.le_of_ble_eq_true rfl) ft_1_5 rfl rfl (so_4_5 (by omega) (by omega)) (rm_nm (fun x_33 ex_33 => ?_))
            refine rm_iconst (v := 2) hc dX1_hear_141 (by decide) ?_
            exact rm_iret hc dX1_hear_142 ⟨(hr_2 (k2 := k2) hL (mean_4 (by rw [ht_5]; exact zt_5) (by rw [ht_11]; exact zt_11) (by rw [ht_17]; exact zt_17) (by rw [ht_23]; exact zt_23))).1.symm, by rw [(hr_2 (k2 := k2) hL (mean_4 (by rw [ht_5]; exact zt_5) (by rw [ht_11]; exact zt_11) (by rw [ht_17]; exact zt_17) (by rw [ht_23]; exact zt_23))).2]; subst_vars; simp [up]⟩
          · --pos
            refine rm_if_le (tgt := 98) hc dX1_hear_59 (by decide) (fun h => absurd h (nI_nle (n := t_23) (by omega) (by omega))) (fun _ => ?_)
            refine rm_aload hc dX1_hear_62 rfl ?_
            refine rm_iload hc dX1_hear_64 rfl ?_
            refine rm_aload_n hc dX1_hear_66 rfl rfl ?_
            refine rm_geti hc dX1_hear_67 fl_X1_62 (dm_8 (by omega)) rfl rfl (fun v_35 e_35 => ?_)
            obtain rfl : wv = v_35 := (e_35.trans ew.symm).symm
            refine rm_calliV (As := [.int (nI (t_23)), .int wv]) (rest := []) hc dX1_hear_70 (c_X5_take hI x (k := k) (d := d) (s0 := 3) (by omega) (by omega) (by omega) (by omega) (nI (t_23)) wv) mv_X1_65 (dm_s (d := d) (by omega) (by omega) (by omega) (by omega)) rfl rfl (hn := rfl) (hst := rfl) (hw := Nat.le_of_ble_eq_true rfl) (hR := ⟨⟨rfl, rfl⟩, Nat.le_of_ble_eq_true rfl, Nat.le_of_ble_eq_true rfl⟩) (hnc := ⟨Nat.zero_le _, Nat.zero_le _⟩) (fun r_36 y_36 h_36 => ?_)
            obtain ⟨e_36, ey_36⟩ := h_36
            by_cases hT : takS x k d 3 (nI (t_23)) wv
            · --take 1
              rw [if_pos hT] at e_36 ey_36
              obtain rfl := e_36
              refine rm_if_eq (tgt := 98) hc dX1_hear_73 (by decide) (fun h => absurd h (by decide)) (fun _ => ?_)
              refine rm_aload_n hc dX1_hear_76 rfl rfl ?_
              refine rm_iconst (v := 1) hc dX1_hear_77 (by decide) ?_
              refine rm_put hc dX1_hear_78 fl_X1_22 (dm_4 (by omega) (by omega) (by omega)) rfl (Nat.le_of_ble_eq_true rfl) ft_1_1 rfl rfl (so_4_1 (by omega) (by omega)) (rm_nm (fun x_38 ex_38 => ?_))
              refine rm_aload_n hc dX1_hear_81 rfl rfl ?_
              refine rm_dup hc dX1_hear_82 rfl ?_
              refine rm_geti hc dX1_hear_83 fl_X1_30 (dm_4 (by omega) (by omega) (by omega)) rfl rfl (fun v_39 e_39 => ?_)
              refine rm_iconst (v := 1) hc dX1_hear_86 (by decide) ?_
              refine rm_iadd hc dX1_hear_87 (fun v_40 e_40 => ?_)
              refine rm_put hc dX1_hear_88 fl_X1_30 (dm_4 (by omega) (by omega) (by omega)) rfl (Nat.le_of_ble_eq_true rfl) ft_1_3 rfl rfl (so_4_3 (by omega) (by omega)) (rm_nm (fun x_41 ex_41 => ?_))
              refine rm_aload_n hc dX1_hear_91 rfl rfl ?_
              refine rm_iconst (v := 0) hc dX1_hear_92 (by decide) ?_
              refine rm_put hc dX1_hear_93 fl_X1_26 (dm_4 (by omega) (by omega) (by omega)) rfl (Nat.le_of_ble_eq_true rfl) ft_1_2 rfl rfl (so_4_2 (by omega) (by omega)) (rm_nm (fun x_42 ex_42 => ?_))
              refine rm_iconst (v := 0) hc dX1_hear_96 (by decide) ?_
              exact rm_iret hc dX1_hear_97 ⟨(hr_0 (k2 := k2) hL ((mean_3 (by rw [ht_5]; exact zt_5) (by rw [ht_11]; exact zt_11) (by rw [ht_17]; exact zt_17) (by rw [ht_23]; omega)).trans (by rw [ht_23])) (by omega) (by rw [← ew]; exact hT)).1.symm, by rw [(hr_0 (k2 := k2) hL ((mean_3 (by rw [ht_5]; exact zt_5) (by rw [ht_11]; exact zt_11) (by rw [ht_17]; exact zt_17) (by rw [ht_23]; omega)).trans (by rw [ht_23])) (by omega) (by rw [← ew]; exact hT)).2]; subst_vars; simp [opnM, up]⟩
            · --take 0
              rw [if_neg hT] at e_36 ey_36
              obtain rfl := e_36
              refine rm_if_eq (tgt := 98) hc dX1_hear_73 (by decide) (fun _ => ?_) (fun h => absurd (by decide) h)
              refine rm_iload hc dX1_hear_98 rfl ?_
              refine rm_if_le (tgt := 115) hc dX1_hear_100 (by decide) (fun h => absurd h (nI_nle (n := t_23) (by omega) (by omega))) (fun _ => ?_)
              refine rm_aload_n hc dX1_hear_103 rfl rfl ?_
              refine rm_dup hc dX1_hear_104 rfl ?_
              refine rm_geti hc dX1_hear_105 fl_X1_33 (dm_4 (by omega) (by omega) (by omega)) rfl rfl (fun v_45 e_45 => ?_)
              refine rm_iconst (v := 1) hc dX1_hear_108 (by decide) ?_
              refine rm_iadd hc dX1_hear_109 (fun v_46 e_46 => ?_)
              refine rm_put hc dX1_hear_110 fl_X1_33 (dm_4 (by omega) (by omega) (by omega)) rfl (Nat.le_of_ble_eq_true rfl) ft_1_4 rfl rfl (so_4_4 (by omega) (by omega)) (rm_nm (fun x_47 ex_47 => ?_))
              refine rm_iconst (v := 1) hc dX1_hear_113 (by decide) ?_
              exact rm_iret hc dX1_hear_114 ⟨(hr_1 (k2 := k2) hL ((mean_3 (by rw [ht_5]; exact zt_5) (by rw [ht_11]; exact zt_11) (by rw [ht_17]; exact zt_17) (by rw [ht_23]; omega)).trans (by rw [ht_23])) (by omega) (by rw [← ew]; exact hT)).1.symm, by rw [(hr_1 (k2 := k2) hL ((mean_3 (by rw [ht_5]; exact zt_5) (by rw [ht_11]; exact zt_11) (by rw [ht_17]; exact zt_17) (by rw [ht_23]; omega)).trans (by rw [ht_23])) (by omega) (by rw [← ew]; exact hT)).2]; subst_vars; rw [tak0_33]⟩
        · --pos
          refine rm_if_le (tgt := 98) hc dX1_hear_59 (by decide) (fun h => absurd h (nI_nle (n := t_17) (by omega) (by omega))) (fun _ => ?_)
          refine rm_aload hc dX1_hear_62 rfl ?_
          refine rm_iload hc dX1_hear_64 rfl ?_
          refine rm_aload_n hc dX1_hear_66 rfl rfl ?_
          refine rm_geti hc dX1_hear_67 fl_X1_62 (dm_8 (by omega)) rfl rfl (fun v_49 e_49 => ?_)
          obtain rfl : wv = v_49 := (e_49.trans ew.symm).symm
          refine rm_calliV (As := [.int (nI (t_17)), .int wv]) (rest := []) hc dX1_hear_70 (c_X5_take hI x (k := k) (d := d) (s0 := 2) (by omega) (by omega) (by omega) (by omega) (nI (t_17)) wv) mv_X1_65 (dm_s (d := d) (by omega) (by omega) (by omega) (by omega)) rfl rfl (hn := rfl) (hst := rfl) (hw := Nat.le_of_ble_eq_true rfl) (hR := ⟨⟨rfl, rfl⟩, Nat.le_of_ble_eq_true rfl, Nat.le_of_ble_eq_true rfl⟩) (hnc := ⟨Nat.zero_le _, Nat.zero_le _⟩) (fun r_50 y_50 h_50 => ?_)
          obtain ⟨e_50, ey_50⟩ := h_50
          by_cases hT : takS x k d 2 (nI (t_17)) wv
          · --take 1
            rw [if_pos hT] at e_50 ey_50
            obtain rfl := e_50
            refine rm_if_eq (tgt := 98) hc dX1_hear_73 (by decide) (fun h => absurd h (by decide)) (fun _ => ?_)
            refine rm_aload_n hc dX1_hear_76 rfl rfl ?_
            refine rm_iconst (v := 1) hc dX1_hear_77 (by decide) ?_
            refine rm_put hc dX1_hear_78 fl_X1_22 (dm_4 (by omega) (by omega) (by omega)) rfl (Nat.le_of_ble_eq_true rfl) ft_1_1 rfl rfl (so_4_1 (by omega) (by omega)) (rm_nm (fun x_52 ex_52 => ?_))
            refine rm_aload_n hc dX1_hear_81 rfl rfl ?_
            refine rm_dup hc dX1_hear_82 rfl ?_
            refine rm_geti hc dX1_hear_83 fl_X1_30 (dm_4 (by omega) (by omega) (by omega)) rfl rfl (fun v_53 e_53 => ?_)
            refine rm_iconst (v := 1) hc dX1_hear_86 (by decide) ?_
            refine rm_iadd hc dX1_hear_87 (fun v_54 e_54 => ?_)
            refine rm_put hc dX1_hear_88 fl_X1_30 (dm_4 (by omega) (by omega) (by omega)) rfl (Nat.le_of_ble_eq_true rfl) ft_1_3 rfl rfl (so_4_3 (by omega) (by omega)) (rm_nm (fun x_55 ex_55 => ?_))
            refine rm_aload_n hc dX1_hear_91 rfl rfl ?_
            refine rm_iconst (v := 0) hc dX1_hear_92 (by decide) ?_
            refine rm_put hc dX1_hear_93 fl_X1_26 (dm_4 (by omega) (by omega) (by omega)) rfl (Nat.le_of_ble_eq_true rfl) ft_1_2 rfl rfl (so_4_2 (by omega) (by omega)) (rm_nm (fun x_56 ex_56 => ?_))
            refine rm_iconst (v := 0) hc dX1_hear_96 (by decide) ?_
            exact rm_iret hc dX1_hear_97 ⟨(hr_0 (k2 := k2) hL ((mean_2 (by rw [ht_5]; exact zt_5) (by rw [ht_11]; exact zt_11) (by rw [ht_17]; omega)).trans (by rw [ht_17])) (by omega) (by rw [← ew]; exact hT)).1.symm, by rw [(hr_0 (k2 := k2) hL ((mean_2 (by rw [ht_5]; exact zt_5) (by rw [ht_11]; exact zt_11) (by rw [ht_17]; omega)).trans (by rw [ht_17])) (by omega) (by rw [← ew]; exact hT)).2]; subst_vars; simp [opnM, up]⟩
          · --take 0
            rw [if_neg hT] at e_50 ey_50
            obtain rfl := e_50
            refine rm_if_eq (tgt := 98) hc dX1_hear_73 (by decide) (fun _ => ?_) (fun h => absurd (by decide) h)
            refine rm_iload hc dX1_hear_98 rfl ?_
            refine rm_if_le (tgt := 115) hc dX1_hear_100 (by decide) (fun h => absurd h (nI_nle (n := t_17) (by omega) (by omega))) (fun _ => ?_)
            refine rm_aload_n hc dX1_hear_103 rfl rfl ?_
            refine rm_dup hc dX1_hear_104 rfl ?_
            refine rm_geti hc dX1_hear_105 fl_X1_33 (dm_4 (by omega) (by omega) (by omega)) rfl rfl (fun v_59 e_59 => ?_)
            refine rm_iconst (v := 1) hc dX1_hear_108 (by decide) ?_
            refine rm_iadd hc dX1_hear_109 (fun v_60 e_60 => ?_)
            refine rm_put hc dX1_hear_110 fl_X1_33 (dm_4 (by omega) (by omega) (by omega)) rfl (Nat.le_of_ble_eq_true rfl) ft_1_4 rfl rfl (so_4_4 (by omega) (by omega)) (rm_nm (fun x_61 ex_61 => ?_))
            refine rm_iconst (v := 1) hc dX1_hear_113 (by decide) ?_
            exact rm_iret hc dX1_hear_114 ⟨(hr_1 (k2 := k2) hL ((mean_2 (by rw [ht_5]; exact zt_5) (by rw [ht_11]; exact zt_11) (by rw [ht_17]; omega)).trans (by rw [ht_17])) (by omega) (by rw [← ew]; exact hT)).1.symm, by rw [(hr_1 (k2 := k2) hL ((mean_2 (by rw [ht_5]; exact zt_5) (by rw [ht_11]; exact zt_11) (by rw [ht_17]; omega)).trans (by rw [ht_17])) (by omega) (by rw [← ew]; exact hT)).2]; subst_vars; rw [tak0_33]⟩
      · --pos
        refine rm_if_le (tgt := 98) hc dX1_hear_59 (by decide) (fun h => absurd h (nI_nle (n := t_11) (by omega) (by omega))) (fun _ => ?_)
        refine rm_aload hc dX1_hear_62 rfl ?_
        refine rm_iload hc dX1_hear_64 rfl ?_
        refine rm_aload_n hc dX1_hear_66 rfl rfl ?_
        refine rm_geti hc dX1_hear_67 fl_X1_62 (dm_8 (by omega)) rfl rfl (fun v_63 e_63 => ?_)
        obtain rfl : wv = v_63 := (e_63.trans ew.symm).symm
        refine rm_calliV (As := [.int (nI (t_11)), .int wv]) (rest := []) hc dX1_hear_70 (c_X5_take hI x (k := k) (d := d) (s0 := 1) (by omega) (by omega) (by omega) (by omega) (nI (t_11)) wv) mv_X1_65 (dm_s (d := d) (by omega) (by omega) (by omega) (by omega)) rfl rfl (hn := rfl) (hst := rfl) (hw := Nat.le_of_ble_eq_true rfl) (hR := ⟨⟨rfl, rfl⟩, Nat.le_of_ble_eq_true rfl, Nat.le_of_ble_eq_true rfl⟩) (hnc := ⟨Nat.zero_le _, Nat.zero_le _⟩) (fun r_64 y_64 h_64 => ?_)
        obtain ⟨e_64, ey_64⟩ := h_64
        by_cases hT : takS x k d 1 (nI (t_11)) wv
        · --take 1
          rw [if_pos hT] at e_64 ey_64
          obtain rfl := e_64
          refine rm_if_eq (tgt := 98) hc dX1_hear_73 (by decide) (fun h => absurd h (by decide)) (fun _ => ?_)
          refine rm_aload_n hc dX1_hear_76 rfl rfl ?_
          refine rm_iconst (v := 1) hc dX1_hear_77 (by decide) ?_
          refine rm_put hc dX1_hear_78 fl_X1_22 (dm_4 (by omega) (by omega) (by omega)) rfl (Nat.le_of_ble_eq_true rfl) ft_1_1 rfl rfl (so_4_1 (by omega) (by omega)) (rm_nm (fun x_66 ex_66 => ?_))
          refine rm_aload_n hc dX1_hear_81 rfl rfl ?_
          refine rm_dup hc dX1_hear_82 rfl ?_
          refine rm_geti hc dX1_hear_83 fl_X1_30 (dm_4 (by omega) (by omega) (by omega)) rfl rfl (fun v_67 e_67 => ?_)
          refine rm_iconst (v := 1) hc dX1_hear_86 (by decide) ?_
          refine rm_iadd hc dX1_hear_87 (fun v_68 e_68 => ?_)
          refine rm_put hc dX1_hear_88 fl_X1_30 (dm_4 (by omega) (by omega) (by omega)) rfl (Nat.le_of_ble_eq_true rfl) ft_1_3 rfl rfl (so_4_3 (by omega) (by omega)) (rm_nm (fun x_69 ex_69 => ?_))
          refine rm_aload_n hc dX1_hear_91 rfl rfl ?_
          refine rm_iconst (v := 0) hc dX1_hear_92 (by decide) ?_
          refine rm_put hc dX1_hear_93 fl_X1_26 (dm_4 (by omega) (by omega) (by omega)) rfl (Nat.le_of_ble_eq_true rfl) ft_1_2 rfl rfl (so_4_2 (by omega) (by omega)) (rm_nm (fun x_70 ex_70 => ?_))
          refine rm_iconst (v := 0) hc dX1_hear_96 (by decide) ?_
          exact rm_iret hc dX1_hear_97 ⟨(hr_0 (k2 := k2) hL ((mean_1 (by rw [ht_5]; exact zt_5) (by rw [ht_11]; omega)).trans (by rw [ht_11])) (by omega) (by rw [← ew]; exact hT)).1.symm, by rw [(hr_0 (k2 := k2) hL ((mean_1 (by rw [ht_5]; exact zt_5) (by rw [ht_11]; omega)).trans (by rw [ht_11])) (by omega) (by rw [← ew]; exact hT)).2]; subst_vars; simp [opnM, up]⟩
        · --take 0
          rw [if_neg hT] at e_64 ey_64
          obtain rfl := e_64
          refine rm_if_eq (tgt := 98) hc dX1_hear_73 (by decide) (fun _ => ?_) (fun h => absurd (by decide) h)
          refine rm_iload hc dX1_hear_98 rfl ?_
          refine rm_if_le (tgt := 115) hc dX1_hear_100 (by decide) (fun h => absurd h (nI_nle (n := t_11) (by omega) (by omega))) (fun _ => ?_)
          refine rm_aload_n hc dX1_hear_103 rfl rfl ?_
          refine rm_dup hc dX1_hear_104 rfl ?_
          refine rm_geti hc dX1_hear_105 fl_X1_33 (dm_4 (by omega) (by omega) (by omega)) rfl rfl (fun v_73 e_73 => ?_)
          refine rm_iconst (v := 1) hc dX1_hear_108 (by decide) ?_
          refine rm_iadd hc dX1_hear_109 (fun v_74 e_74 => ?_)
          refine rm_put hc dX1_hear_110 fl_X1_33 (dm_4 (by omega) (by omega) (by omega)) rfl (Nat.le_of_ble_eq_true rfl) ft_1_4 rfl rfl (so_4_4 (by omega) (by omega)) (rm_nm (fun x_75 ex_75 => ?_))
          refine rm_iconst (v := 1) hc dX1_hear_113 (by decide) ?_
          exact rm_iret hc dX1_hear_114 ⟨(hr_1 (k2 := k2) hL ((mean_1 (by rw [ht_5]; exact zt_5) (by rw [ht_11]; omega)).trans (by rw [ht_11])) (by omega) (by rw [← ew]; exact hT)).1.symm, by rw [(hr_1 (k2 := k2) hL ((mean_1 (by rw [ht_5]; exact zt_5) (by rw [ht_11]; omega)).trans (by rw [ht_11])) (by omega) (by rw [← ew]; exact hT)).2]; subst_vars; rw [tak0_33]⟩
    · --pos
      refine rm_if_le (tgt := 98) hc dX1_hear_59 (by decide) (fun h => absurd h (nI_nle (n := t_5) (by omega) (by omega))) (fun _ => ?_)
      refine rm_aload hc dX1_hear_62 rfl ?_
      refine rm_iload hc dX1_hear_64 rfl ?_
      refine rm_aload_n hc dX1_hear_66 rfl rfl ?_
      refine rm_geti hc dX1_hear_67 fl_X1_62 (dm_8 (by omega)) rfl rfl (fun v_77 e_77 => ?_)
      obtain rfl : wv = v_77 := (e_77.trans ew.symm).symm
      refine rm_calliV (As := [.int (nI (t_5)), .int wv]) (rest := []) hc dX1_hear_70 (c_X5_take hI x (k := k) (d := d) (s0 := 0) (by omega) (by omega) (by omega) (by omega) (nI (t_5)) wv) mv_X1_65 (dm_s (d := d) (by omega) (by omega) (by omega) (by omega)) rfl rfl (hn := rfl) (hst := rfl) (hw := Nat.le_of_ble_eq_true rfl) (hR := ⟨⟨rfl, rfl⟩, Nat.le_of_ble_eq_true rfl, Nat.le_of_ble_eq_true rfl⟩) (hnc := ⟨Nat.zero_le _, Nat.zero_le _⟩) (fun r_78 y_78 h_78 => ?_)
      obtain ⟨e_78, ey_78⟩ := h_78
      by_cases hT : takS x k d 0 (nI (t_5)) wv
      · --take 1
        rw [if_pos hT] at e_78 ey_78
        obtain rfl := e_78
        refine rm_if_eq (tgt := 98) hc dX1_hear_73 (by decide) (fun h => absurd h (by decide)) (fun _ => ?_)
        refine rm_aload_n hc dX1_hear_76 rfl rfl ?_
        refine rm_iconst (v := 1) hc dX1_hear_77 (by decide) ?_
        refine rm_put hc dX1_hear_78 fl_X1_22 (dm_4 (by omega) (by omega) (by omega)) rfl (Nat.le_of_ble_eq_true rfl) ft_1_1 rfl rfl (so_4_1 (by omega) (by omega)) (rm_nm (fun x_80 ex_80 => ?_))
        refine rm_aload_n hc dX1_hear_81 rfl rfl ?_
        refine rm_dup hc dX1_hear_82 rfl ?_
        refine rm_geti hc dX1_hear_83 fl_X1_30 (dm_4 (by omega) (by omega) (by omega)) rfl rfl (fun v_81 e_81 => ?_)
        refine rm_iconst (v := 1) hc dX1_hear_86 (by decide) ?_
        refine rm_iadd hc dX1_hear_87 (fun v_82 e_82 => ?_)
        refine rm_put hc dX1_hear_88 fl_X1_30 (dm_4 (by omega) (by omega) (by omega)) rfl (Nat.le_of_ble_eq_true rfl) ft_1_3 rfl rfl (so_4_3 (by omega) (by omega)) (rm_nm (fun x_83 ex_83 => ?_))
        refine rm_aload_n hc dX1_hear_91 rfl rfl ?_
        refine rm_iconst (v := 0) hc dX1_hear_92 (by decide) ?_
        refine rm_put hc dX1_hear_93 fl_X1_26 (dm_4 (by omega) (by omega) (by omega)) rfl (Nat.le_of_ble_eq_true rfl) ft_1_2 rfl rfl (so_4_2 (by omega) (by omega)) (rm_nm (fun x_84 ex_84 => ?_))
        refine rm_iconst (v := 0) hc dX1_hear_96 (by decide) ?_
        exact rm_iret hc dX1_hear_97 ⟨(hr_0 (k2 := k2) hL ((mean_0  (by rw [ht_5]; omega)).trans (by rw [ht_5])) (by omega) (by rw [← ew]; exact hT)).1.symm, by rw [(hr_0 (k2 := k2) hL ((mean_0  (by rw [ht_5]; omega)).trans (by rw [ht_5])) (by omega) (by rw [← ew]; exact hT)).2]; subst_vars; simp [opnM, up]⟩
      · --take 0
        rw [if_neg hT] at e_78 ey_78
        obtain rfl := e_78
        refine rm_if_eq (tgt := 98) hc dX1_hear_73 (by decide) (fun _ => ?_) (fun h => absurd (by decide) h)
        refine rm_iload hc dX1_hear_98 rfl ?_
        refine rm_if_le (tgt := 115) hc dX1_hear_100 (by decide) (fun h => absurd h (nI_nle (n := t_5) (by omega) (by omega))) (fun _ => ?_)
        refine rm_aload_n hc dX1_hear_103 rfl rfl ?_
        refine rm_dup hc dX1_hear_104 rfl ?_
        refine rm_geti hc dX1_hear_105 fl_X1_33 (dm_4 (by omega) (by omega) (by omega)) rfl rfl (fun v_87 e_87 => ?_)
        refine rm_iconst (v := 1) hc dX1_hear_108 (by decide) ?_
        refine rm_iadd hc dX1_hear_109 (fun v_88 e_88 => ?_)
        refine rm_put hc dX1_hear_110 fl_X1_33 (dm_4 (by omega) (by omega) (by omega)) rfl (Nat.le_of_ble_eq_true rfl) ft_1_4 rfl rfl (so_4_4 (by omega) (by omega)) (rm_nm (fun x_89 ex_89 => ?_))
        refine rm_iconst (v := 1) hc dX1_hear_113 (by decide) ?_
        exact rm_iret hc dX1_hear_114 ⟨(hr_1 (k2 := k2) hL ((mean_0  (by rw [ht_5]; omega)).trans (by rw [ht_5])) (by omega) (by rw [← ew]; exact hT)).1.symm, by rw [(hr_1 (k2 := k2) hL ((mean_0  (by rw [ht_5]; omega)).trans (by rw [ht_5])) (by omega) (by rw [← ew]; exact hT)).2]; subst_vars; rw [tak0_33]⟩
  · --locked
    refine rm_aload_n hc dX1_hear_8 rfl rfl ?_
    refine rm_dup hc dX1_hear_9 rfl ?_
    refine rm_geti hc dX1_hear_10 fl_X1_39 (dm_4 (by omega) (by omega) (by omega)) rfl rfl (fun v_90 e_90 => ?_)
    refine rm_iconst (v := 1) hc dX1_hear_13 (by decide) ?_
    refine rm_iadd hc dX1_hear_14 (fun v_91 e_91 => ?_)
    refine rm_put hc dX1_hear_15 fl_X1_39 (dm_4 (by omega) (by omega) (by omega)) rfl (Nat.le_of_ble_eq_true rfl) ft_1_6 rfl rfl (so_4_6 (by omega) (by omega)) (rm_nm (fun x_92 ex_92 => ?_))
    refine rm_iconst (v := 3) hc dX1_hear_18 (by decide) ?_
    exact rm_iret hc dX1_hear_19 ⟨by subst_vars; exact (hr_3 (by assumption)).1.symm, by subst_vars; exact (hr_3 (by assumption)).2.symm⟩

abbrev rm_X6_copyFrom : Room := { frames := 2, cells := 0, slots := 0, locals := 61 }
set_option maxHeartbeats 4000000 in
set_option maxRecDepth 100000 in
theorem c_X6_copyFrom {l : Launch} {D : va_G} {cy : Nat → ClassId} {ad : Ads} (hI : IJ ad) (x : Mem) {k k2 : Nat} (hk : k < 7) (hk2 : k2 < 7) (hkk : k2 ≠ k) (hF : FLG x k2) : Ctv l yX6_copyFrom cX6_copyFrom 3 none rm_X6_copyFrom D cy ad [.ref (ad k 0 0), .ref (ad k2 0 0)] x (fun y => y = cpS x k 0 k2 0 96) := by
  refine rm_entry (Qc := Qv D cy ad (fun y => y = cpS x k 0 k2 0 96)) hI (by decide) (Nat.le_of_ble_eq_true rfl) ?_
  intro p e s m args below meth c hc
  show RM _ _ _ _ _ _ _ _ _ _ _ _ _ _ _ _ _ [(0, .ref (ad k 0 0)), (1, .ref (ad k2 0 0))] []
  refine rm_iconst (v := 0) hc dX6_copyFrom_0 (by decide) ?_
  refine rm_istore_n (ls' := [(0, .ref (ad k 0 0)), (1, .ref (ad k2 0 0)), (2, .int 0)]) hc dX6_copyFrom_1 rfl (by decide) rfl ?_
  refine rm_iload_n hc dX6_copyFrom_2 rfl rfl ?_
  refine rm_iconst (v := 4) hc dX6_copyFrom_3 (by decide) ?_
  refine rm_icmp_ge (tgt := 28) hc dX6_copyFrom_4 (by decide) (fun h => absurd h (by decide)) (fun _ => ?_)
  refine rm_aload_n hc dX6_copyFrom_7 rfl rfl ?_
  refine rm_get hc dX6_copyFrom_8 fl_X6_11 (dm_0 (by omega)) rfl rfl ?_
  refine rm_iload_n hc dX6_copyFrom_11 rfl rfl ?_
  refine rm_aald (t0 := 1) (i := 0) (v := .ref (ad k 2 0)) hc dX6_copyFrom_12 (dm_1 (by omega)) rfl rfl (by omega) (by decide) rfl rfl ?_
  refine rm_aload_n hc dX6_copyFrom_13 rfl rfl ?_
  refine rm_get hc dX6_copyFrom_14 fl_X6_11 (dm_0 (by omega)) rfl rfl ?_
  refine rm_iload_n hc dX6_copyFrom_17 rfl rfl ?_
  refine rm_aald (t0 := 1) (i := 0) (v := .ref (ad k2 2 0)) hc dX6_copyFrom_18 (dm_1 (by omega)) rfl rfl (by omega) (by decide) rfl rfl ?_
  refine rm_callvV (As := [.ref (ad k2 2 0)]) (rest := []) hc dX6_copyFrom_19 (c_X2_copyFrom hI x (k := k) (j := 0) (k2 := k2) (by omega) (by omega) (by omega) hkk) mv_X6_41 (dm_2 (by omega) (by omega)) rfl rfl (hn := rfl) (hst := rfl) (hw := Nat.le_of_ble_eq_true rfl) (hR := ⟨⟨rfl, rfl⟩, Nat.le_of_ble_eq_true rfl, Nat.le_of_ble_eq_true rfl⟩) (hnc := ⟨Nat.zero_le _, Nat.zero_le _⟩) (fun y_2 h_2 => ?_)
  refine rm_iinc (v := 1) (ls' := [(0, .ref (ad k 0 0)), (1, .ref (ad k2 0 0)), (2, .int 1)]) hc dX6_copyFrom_22 rfl (by decide) (by decide) rfl ?_
  refine rm_goto (tgt := 2) hc dX6_copyFrom_25 (by decide) ?_
  refine rm_iload_n hc dX6_copyFrom_2 rfl rfl ?_
  refine rm_iconst (v := 4) hc dX6_copyFrom_3 (by decide) ?_
  refine rm_icmp_ge (tgt := 28) hc dX6_copyFrom_4 (by decide) (fun h => absurd h (by decide)) (fun _ => ?_)
  refine rm_aload_n hc dX6_copyFrom_7 rfl rfl ?_
  refine rm_get hc dX6_copyFrom_8 fl_X6_11 (dm_0 (by omega)) rfl rfl ?_
  refine rm_iload_n hc dX6_copyFrom_11 rfl rfl ?_
  refine rm_aald (t0 := 1) (i := 1) (v := .ref (ad k 2 1)) hc dX6_copyFrom_12 (dm_1 (by omega)) rfl rfl (by omega) (by decide) rfl rfl ?_
  refine rm_aload_n hc dX6_copyFrom_13 rfl rfl ?_
  refine rm_get hc dX6_copyFrom_14 fl_X6_11 (dm_0 (by omega)) rfl rfl ?_
  refine rm_iload_n hc dX6_copyFrom_17 rfl rfl ?_
  refine rm_aald (t0 := 1) (i := 1) (v := .ref (ad k2 2 1)) hc dX6_copyFrom_18 (dm_1 (by omega)) rfl rfl (by omega) (by decide) rfl rfl ?_
  refine rm_callvV (As := [.ref (ad k2 2 1)]) (rest := []) hc dX6_copyFrom_19 (c_X2_copyFrom hI y_2 (k := k) (j := 1) (k2 := k2) (by omega) (by omega) (by omega) hkk) mv_X6_41 (dm_2 (by omega) (by omega)) rfl rfl (hn := rfl) (hst := rfl) (hw := Nat.le_of_ble_eq_true rfl) (hR := ⟨⟨rfl, rfl⟩, Nat.le_of_ble_eq_true rfl, Nat.le_of_ble_eq_true rfl⟩) (hnc := ⟨Nat.zero_le _, Nat.zero_le _⟩) (fun y_4 h_4 => ?_)
  refine rm_iinc (v := 2) (ls' := [(0, .ref (ad k 0 0)), (1, .ref (ad k2 0 0)), (2, .int 2)]) hc dX6_copyFrom_22 rfl (by decide) (by decide) rfl ?_
  refine rm_goto (tgt := 2) hc dX6_copyFrom_25 (by decide) ?_
  refine rm_iload_n hc dX6_copyFrom_2 rfl rfl ?_
  refine rm_iconst (v := 4) hc dX6_copyFrom_3 (by decide) ?_
  refine rm_icmp_ge (tgt := 28) hc dX6_copyFrom_4 (by decide) (fun h => absurd h (by decide)) (fun _ => ?_)
  refine rm_aload_n hc dX6_copyFrom_7 rfl rfl ?_
  refine rm_get hc dX6_copyFrom_8 fl_X6_11 (dm_0 (by omega)) rfl rfl ?_
  refine rm_iload_n hc dX6_copyFrom_11 rfl rfl ?_
  refine rm_aald (t0 := 1) (i := 2) (v := .ref (ad k 2 2)) hc dX6_copyFrom_12 (dm_1 (by omega)) rfl rfl (by omega) (by decide) rfl rfl ?_
  refine rm_aload_n hc dX6_copyFrom_13 rfl rfl ?_
  refine rm_get hc dX6_copyFrom_14 fl_X6_11 (dm_0 (by omega)) rfl rfl ?_
  refine rm_iload_n hc dX6_copyFrom_17 rfl rfl ?_
  refine rm_aald (t0 := 1) (i := 2) (v := .ref (ad k2 2 2)) hc dX6_copyFrom_18 (dm_1 (by omega)) rfl rfl (by omega) (by decide) rfl rfl ?_
  refine rm_callvV (As := [.ref (ad k2 2 2)]) (rest := []) hc dX6_copyFrom_19 (c_X2_copyFrom hI y_4 (k := k) (j := 2) (k2 := k2) (by omega) (by omega) (by omega) hkk) mv_X6_41 (dm_2 (by omega) (by omega)) rfl rfl (hn := rfl) (hst := rfl) (hw := Nat.le_of_ble_eq_true rfl) (hR := ⟨⟨rfl, rfl⟩, Nat.le_of_ble_eq_true rfl, Nat.le_of_ble_eq_true rfl⟩) (hnc := ⟨Nat.zero_le _, Nat.zero_le _⟩) (fun y_6 h_6 => ?_)
  refine rm_iinc (v := 3) (ls' := [(0, .ref (ad k 0 0)), (1, .ref (ad k2 0 0)), (2, .int 3)]) hc dX6_copyFrom_22 rfl (by decide) (by decide) rfl ?_
  refine rm_goto (tgt := 2) hc dX6_copyFrom_25 (by decide) ?_
  refine rm_iload_n hc dX6_copyFrom_2 rfl rfl ?_
  refine rm_iconst (v := 4) hc dX6_copyFrom_3 (by decide) ?_
  refine rm_icmp_ge (tgt := 28) hc dX6_copyFrom_4 (by decide) (fun h => absurd h (by decide)) (fun _ => ?_)
  refine rm_aload_n hc dX6_copyFrom_7 rfl rfl ?_
  refine rm_get hc dX6_copyFrom_8 fl_X6_11 (dm_0 (by omega)) rfl rfl ?_
  refine rm_iload_n hc dX6_copyFrom_11 rfl rfl ?_
  refine rm_aald (t0 := 1) (i := 3) (v := .ref (ad k 2 3)) hc dX6_copyFrom_12 (dm_1 (by omega)) rfl rfl (by omega) (by decide) rfl rfl ?_
  refine rm_aload_n hc dX6_copyFrom_13 rfl rfl ?_
  refine rm_get hc dX6_copyFrom_14 fl_X6_11 (dm_0 (by omega)) rfl rfl ?_
  refine rm_iload_n hc dX6_copyFrom_17 rfl rfl ?_
  refine rm_aald (t0 := 1) (i := 3) (v := .ref (ad k2 2 3)) hc dX6_copyFrom_18 (dm_1 (by omega)) rfl rfl (by omega) (by decide) rfl rfl ?_
  refine rm_callvV (As := [.ref (ad k2 2 3)]) (rest := []) hc dX6_copyFrom_19 (c_X2_copyFrom hI y_6 (k := k) (j := 3) (k2 := k2) (by omega) (by omega) (by omega) hkk) mv_X6_41 (dm_2 (by omega) (by omega)) rfl rfl (hn := rfl) (hst := rfl) (hw := Nat.le_of_ble_eq_true rfl) (hR := ⟨⟨rfl, rfl⟩, Nat.le_of_ble_eq_true rfl, Nat.le_of_ble_eq_true rfl⟩) (hnc := ⟨Nat.zero_le _, Nat.zero_le _⟩) (fun y_8 h_8 => ?_)
  refine rm_iinc (v := 4) (ls' := [(0, .ref (ad k 0 0)), (1, .ref (ad k2 0 0)), (2, .int 4)]) hc dX6_copyFrom_22 rfl (by decide) (by decide) rfl ?_
  refine rm_goto (tgt := 2) hc dX6_copyFrom_25 (by decide) ?_
  refine rm_iload_n hc dX6_copyFrom_2 rfl rfl ?_
  refine rm_iconst (v := 4) hc dX6_copyFrom_3 (by decide) ?_
  refine rm_icmp_ge (tgt := 28) hc dX6_copyFrom_4 (by decide) (fun _ => ?_) (fun h => absurd (by decide) h)
  refine rm_iconst (v := 0) hc dX6_copyFrom_28 (by decide) ?_
  refine rm_istore_n (ls' := [(0, .ref (ad k 0 0)), (1, .ref (ad k2 0 0)), (2, .int 0)]) hc dX6_copyFrom_29 rfl (by decide) rfl ?_
  refine rm_iload_n hc dX6_copyFrom_30 rfl rfl ?_
  refine rm_iconst (v := 3) hc dX6_copyFrom_31 (by decide) ?_
  refine rm_icmp_ge (tgt := 56) hc dX6_copyFrom_32 (by decide) (fun h => absurd h (by decide)) (fun _ => ?_)
  refine rm_aload_n hc dX6_copyFrom_35 rfl rfl ?_
  refine rm_get hc dX6_copyFrom_36 fl_X6_22 (dm_0 (by omega)) rfl rfl ?_
  refine rm_iload_n hc dX6_copyFrom_39 rfl rfl ?_
  refine rm_aald (t0 := 2) (i := 0) (v := .ref (ad k 4 0)) hc dX6_copyFrom_40 (dm_3 (by omega)) rfl rfl (by omega) (by decide) rfl rfl ?_
  refine rm_aload_n hc dX6_copyFrom_41 rfl rfl ?_
  refine rm_get hc dX6_copyFrom_42 fl_X6_22 (dm_0 (by omega)) rfl rfl ?_
  refine rm_iload_n hc dX6_copyFrom_45 rfl rfl ?_
  refine rm_aald (t0 := 2) (i := 0) (v := .ref (ad k2 4 0)) hc dX6_copyFrom_46 (dm_3 (by omega)) rfl rfl (by omega) (by decide) rfl rfl ?_
  refine rm_callvV (As := [.ref (ad k2 4 0)]) (rest := []) hc dX6_copyFrom_47 (c_X1_copyFrom hI y_8 (k := k) (d := 0) (k2 := k2) (d2 := 0) (by omega) (by omega) (by omega) (by omega) (by omega) (by omega) hkk (fun q hq => by subst_vars; first | exact (hF 0 (by omega)).2 q hq | (simp only [cpS_b hkk]; exact (hF 0 (by omega)).2 q hq)) (by subst_vars; first | exact (hF 0 (by omega)).1 | (simp only [cpS_b hkk]; exact (hF 0 (by omega)).1))) mv_X6_45 (dm_4 (by omega) (by omega) (by omega)) rfl rfl (hn := rfl) (hst := rfl) (hw := Nat.le_of_ble_eq_true rfl) (hR := ⟨⟨rfl, rfl⟩, Nat.le_of_ble_eq_true rfl, Nat.le_of_ble_eq_true rfl⟩) (hnc := ⟨Nat.zero_le _, Nat.zero_le _⟩) (fun y_11 h_11 => ?_)
  refine rm_iinc (v := 1) (ls' := [(0, .ref (ad k 0 0)), (1, .ref (ad k2 0 0)), (2, .int 1)]) hc dX6_copyFrom_50 rfl (by decide) (by decide) rfl ?_
  refine rm_goto (tgt := 30) hc dX6_copyFrom_53 (by decide) ?_
  refine rm_iload_n hc dX6_copyFrom_30 rfl rfl ?_
  refine rm_iconst (v := 3) hc dX6_copyFrom_31 (by decide) ?_
  refine rm_icmp_ge (tgt := 56) hc dX6_copyFrom_32 (by decide) (fun h => absurd h (by decide)) (fun _ => ?_)
  refine rm_aload_n hc dX6_copyFrom_35 rfl rfl ?_
  refine rm_get hc dX6_copyFrom_36 fl_X6_22 (dm_0 (by omega)) rfl rfl ?_
  refine rm_iload_n hc dX6_copyFrom_39 rfl rfl ?_
  refine rm_aald (t0 := 2) (i := 1) (v := .ref (ad k 4 1)) hc dX6_copyFrom_40 (dm_3 (by omega)) rfl rfl (by omega) (by decide) rfl rfl ?_
  refine rm_aload_n hc dX6_copyFrom_41 rfl rfl ?_
  refine rm_get hc dX6_copyFrom_42 fl_X6_22 (dm_0 (by omega)) rfl rfl ?_
  refine rm_iload_n hc dX6_copyFrom_45 rfl rfl ?_
  refine rm_aald (t0 := 2) (i := 1) (v := .ref (ad k2 4 1)) hc dX6_copyFrom_46 (dm_3 (by omega)) rfl rfl (by omega) (by decide) rfl rfl ?_
  refine rm_callvV (As := [.ref (ad k2 4 1)]) (rest := []) hc dX6_copyFrom_47 (c_X1_copyFrom hI y_11 (k := k) (d := 1) (k2 := k2) (d2 := 1) (by omega) (by omega) (by omega) (by omega) (by omega) (by omega) hkk (fun q hq => by subst_vars; first | exact (hF 1 (by omega)).2 q hq | (simp only [cpS_b hkk]; exact (hF 1 (by omega)).2 q hq)) (by subst_vars; first | exact (hF 1 (by omega)).1 | (simp only [cpS_b hkk]; exact (hF 1 (by omega)).1))) mv_X6_45 (dm_4 (by omega) (by omega) (by omega)) rfl rfl (hn := rfl) (hst := rfl) (hw := Nat.le_of_ble_eq_true rfl) (hR := ⟨⟨rfl, rfl⟩, Nat.le_of_ble_eq_true rfl, Nat.le_of_ble_eq_true rfl⟩) (hnc := ⟨Nat.zero_le _, Nat.zero_le _⟩) (fun y_13 h_13 => ?_)
  refine rm_iinc (v := 2) (ls' := [(0, .ref (ad k 0 0)), (1, .ref (ad k2 0 0)), (2, .int 2)]) hc dX6_copyFrom_50 rfl (by decide) (by decide) rfl ?_
  refine rm_goto (tgt := 30) hc dX6_copyFrom_53 (by decide) ?_
  refine rm_iload_n hc dX6_copyFrom_30 rfl rfl ?_
  refine rm_iconst (v := 3) hc dX6_copyFrom_31 (by decide) ?_
  refine rm_icmp_ge (tgt := 56) hc dX6_copyFrom_32 (by decide) (fun h => absurd h (by decide)) (fun _ => ?_)
  refine rm_aload_n hc dX6_copyFrom_35 rfl rfl ?_
  refine rm_get hc dX6_copyFrom_36 fl_X6_22 (dm_0 (by omega)) rfl rfl ?_
  refine rm_iload_n hc dX6_copyFrom_39 rfl rfl ?_
  refine rm_aald (t0 := 2) (i := 2) (v := .ref (ad k 4 2)) hc dX6_copyFrom_40 (dm_3 (by omega)) rfl rfl (by omega) (by decide) rfl rfl ?_
  refine rm_aload_n hc dX6_copyFrom_41 rfl rfl ?_
  refine rm_get hc dX6_copyFrom_42 fl_X6_22 (dm_0 (by omega)) rfl rfl ?_
  refine rm_iload_n hc dX6_copyFrom_45 rfl rfl ?_
  refine rm_aald (t0 := 2) (i := 2) (v := .ref (ad k2 4 2)) hc dX6_copyFrom_46 (dm_3 (by omega)) rfl rfl (by omega) (by decide) rfl rfl ?_
  refine rm_callvV (As := [.ref (ad k2 4 2)]) (rest := []) hc dX6_copyFrom_47 (c_X1_copyFrom hI y_13 (k := k) (d := 2) (k2 := k2) (d2 := 2) (by omega) (by omega) (by omega) (by omega) (by omega) (by omega) hkk (fun q hq => by subst_vars; first | exact (hF 2 (by omega)).2 q hq | (simp only [cpS_b hkk]; exact (hF 2 (by omega)).2 q hq)) (by subst_vars; first | exact (hF 2 (by omega)).1 | (simp only [cpS_b hkk]; exact (hF 2 (by omega)).1))) mv_X6_45 (dm_4 (by omega) (by omega) (by omega)) rfl rfl (hn := rfl) (hst := rfl) (hw := Nat.le_of_ble_eq_true rfl) (hR := ⟨⟨rfl, rfl⟩, Nat.le_of_ble_eq_true rfl, Nat.le_of_ble_eq_true rfl⟩) (hnc := ⟨Nat.zero_le _, Nat.zero_le _⟩) (fun y_15 h_15 => ?_)
  refine rm_iinc (v := 3) (ls' := [(0, .ref (ad k 0 0)), (1, .ref (ad k2 0 0)), (2, .int 3)]) hc dX6_copyFrom_50 rfl (by decide) (by decide) rfl ?_
  refine rm_goto (tgt := 30) hc dX6_copyFrom_53 (by decide) ?_
  refine rm_iload_n hc dX6_copyFrom_30 rfl rfl ?_
  refine rm_iconst (v := 3) hc dX6_copyFrom_31 (by decide) ?_
  refine rm_icmp_ge (tgt := 56) hc dX6_copyFrom_32 (by decide) (fun _ => ?_) (fun h => absurd (by decide) h)
  refine rm_aload_n hc dX6_copyFrom_56 rfl rfl ?_
  refine rm_get hc dX6_copyFrom_57 fl_X6_30 (dm_0 (by omega)) rfl rfl ?_
  refine rm_aload_n hc dX6_copyFrom_60 rfl rfl ?_
  refine rm_get hc dX6_copyFrom_61 fl_X6_30 (dm_0 (by omega)) rfl rfl ?_
  refine rm_callvV (As := [.ref (ad k2 6 0)]) (rest := []) hc dX6_copyFrom_64 (c_X0_copyFrom hI y_15 (k := k) (k2 := k2) (by omega) (by omega) hkk) mv_X6_48 (dm_6 (by omega)) rfl rfl (hn := rfl) (hst := rfl) (hw := Nat.le_of_ble_eq_true rfl) (hR := ⟨⟨rfl, rfl⟩, Nat.le_of_ble_eq_true rfl, Nat.le_of_ble_eq_true rfl⟩) (hnc := ⟨Nat.zero_le _, Nat.zero_le _⟩) (fun y_17 h_17 => ?_)
  refine rm_aload_n hc dX6_copyFrom_67 rfl rfl ?_
  refine rm_get hc dX6_copyFrom_68 fl_X6_37 (dm_0 (by omega)) rfl rfl ?_
  refine rm_aload_n hc dX6_copyFrom_71 rfl rfl ?_
  refine rm_get hc dX6_copyFrom_72 fl_X6_37 (dm_0 (by omega)) rfl rfl ?_
  refine rm_callvV (As := [.ref (ad k2 8 0)]) (rest := []) hc dX6_copyFrom_75 (c_X4_copyFrom hI y_17 (k := k) (k2 := k2) (by omega) (by omega) hkk) mv_X6_51 (dm_8 (by omega)) rfl rfl (hn := rfl) (hst := rfl) (hw := Nat.le_of_ble_eq_true rfl) (hR := ⟨⟨rfl, rfl⟩, Nat.le_of_ble_eq_true rfl, Nat.le_of_ble_eq_true rfl⟩) (hnc := ⟨Nat.zero_le _, Nat.zero_le _⟩) (fun y_18 h_18 => ?_)
  refine rm_aload_n hc dX6_copyFrom_78 rfl rfl ?_
  refine rm_aload_n hc dX6_copyFrom_79 rfl rfl ?_
  refine rm_geti hc dX6_copyFrom_80 fl_X6_54 (dm_0 (by omega)) rfl rfl (fun v_19 e_19 => ?_)
  refine rm_put hc dX6_copyFrom_83 fl_X6_54 (dm_0 (by omega)) rfl (Nat.le_of_ble_eq_true rfl) ft_6_4 rfl rfl (so_0_4 (by omega)) (rm_nm (fun x_20 ex_20 => ?_))
  refine rm_aload_n hc dX6_copyFrom_86 rfl rfl ?_
  refine rm_aload_n hc dX6_copyFrom_87 rfl rfl ?_
  refine rm_geti hc dX6_copyFrom_88 fl_X6_58 (dm_0 (by omega)) rfl rfl (fun v_21 e_21 => ?_)
  refine rm_put hc dX6_copyFrom_91 fl_X6_58 (dm_0 (by omega)) rfl (Nat.le_of_ble_eq_true rfl) ft_6_5 rfl rfl (so_0_5 (by omega)) (rm_nm (fun x_22 ex_22 => ?_))
  exact rm_vret hc dX6_copyFrom_94 (by subst_vars; simp only [Nat.reduceMul, Nat.reduceAdd, cpS_b hkk, up_b _ _ _ hkk]; exact cpStateF hkk)
