theorem cpn_6 {x : Mem} {k k2 o o2 : Nat} (h : k2 ≠ k) : (up (up (up (up (up (up x k o (x k2 o2)) k (o + 1) ((up x k o (x k2 o2)) k2 (o2 + 1))) k (o + 2) ((up (up x k o (x k2 o2)) k (o + 1) ((up x k o (x k2 o2)) k2 (o2 + 1))) k2 (o2 + 2))) k (o + 3) ((up (up (up x k o (x k2 o2)) k (o + 1) ((up x k o (x k2 o2)) k2 (o2 + 1))) k (o + 2) ((up (up x k o (x k2 o2)) k (o + 1) ((up x k o (x k2 o2)) k2 (o2 + 1))) k2 (o2 + 2))) k2 (o2 + 3))) k (o + 4) ((up (up (up (up x k o (x k2 o2)) k (o + 1) ((up x k o (x k2 o2)) k2 (o2 + 1))) k (o + 2) ((up (up x k o (x k2 o2)) k (o + 1) ((up x k o (x k2 o2)) k2 (o2 + 1))) k2 (o2 + 2))) k (o + 3) ((up (up (up x k o (x k2 o2)) k (o + 1) ((up x k o (x k2 o2)) k2 (o2 + 1))) k (o + 2) ((up (up x k o (x k2 o2)) k (o + 1) ((up x k o (x k2 o2)) k2 (o2 + 1))) k2 (o2 + 2))) k2 (o2 + 3))) k2 (o2 + 4))) k (o + 5) ((up (up (up (up (up x k o (x k2 o2)) k (o + 1) ((up x k o (x k2 o2)) k2 (o2 + 1))) k (o + 2) ((up (up x k o (x k2 o2)) k (o + 1) ((up x k o (x k2 o2)) k2 (o2 + 1))) k2 (o2 + 2))) k (o + 3) ((up (up (up x k o (x k2 o2)) k (o + 1) ((up x k o (x k2 o2)) k2 (o2 + 1))) k (o + 2) ((up (up x k o (x k2 o2)) k (o + 1) ((up x k o (x k2 o2)) k2 (o2 + 1))) k2 (o2 + 2))) k2 (o2 + 3))) k (o + 4) ((up (up (up (up x k o (x k2 o2)) k (o + 1) ((up x k o (x k2 o2)) k2 (o2 + 1))) k (o + 2) ((up (up x k o (x k2 o2)) k (o + 1) ((up x k o (x k2 o2)) k2 (o2 + 1))) k2 (o2 + 2))) k (o + 3) ((up (up (up x k o (x k2 o2)) k (o + 1) ((up x k o (x k2 o2)) k2 (o2 + 1))) k (o + 2) ((up (up x k o (x k2 o2)) k (o + 1) ((up x k o (x k2 o2)) k2 (o2 + 1))) k2 (o2 + 2))) k2 (o2 + 3))) k2 (o2 + 4))) k2 (o2 + 5))) = cpS x k o k2 o2 6 := by
  simp only [up_b _ _ _ h]
  rw [cpS_1]
  rw [cpS_up h]
  rw [cpS_up h]
  rw [cpS_up h]
  rw [cpS_up h]
  rw [cpS_up h]

abbrev rm_X1_copyFrom : Room := { frames := 1, cells := 0, slots := 0, locals := 21 }
set_option maxHeartbeats 4000000 in
set_option maxRecDepth 100000 in
theorem c_X1_copyFrom {l : Launch} {D : va_G} {cy : Nat → ClassId} {ad : Ads} (hI : IJ ad) (x : Mem) {k d k2 d2 : Nat} (hk : k < 8) (hd3 : d < 3) (hkd : k = 7 → d = 0) (hk2 : k2 < 8) (hd2 : d2 < 3) (hkd2 : k2 = 7 → d2 = 0) (hkk : k2 ≠ k) (hfl : ∀ q, q < 4 → isFlag (x k2 (36 + 22 * d2 + 4 * q))) (hfo : isFlag (x k2 (30 + 22 * d2))) : Ctv l yX1_copyFrom cX1_copyFrom 3 none rm_X1_copyFrom D cy ad [.ref (ad k 4 d), .ref (ad k2 4 d2)] x (fun y => y = cpS x k (30 + 22 * d) k2 (30 + 22 * d2) 22) := by
  refine rm_entry (Qc := Qv D cy ad (fun y => y = cpS x k (30 + 22 * d) k2 (30 + 22 * d2) 22)) hI (by decide) (Nat.le_of_ble_eq_true rfl) ?_
  intro p e s m args below meth c hc
  show RM _ _ _ _ _ _ _ _ _ _ _ _ _ _ _ _ _ [(0, .ref (ad k 4 d)), (1, .ref (ad k2 4 d2))] []
  refine rm_iconst (v := 0) hc dX1_copyFrom_0 (by decide) ?_
  refine rm_istore_n (ls' := [(0, .ref (ad k 4 d)), (1, .ref (ad k2 4 d2)), (2, .int 0)]) hc dX1_copyFrom_1 rfl (by decide) rfl ?_
  refine rm_iload_n hc dX1_copyFrom_2 rfl rfl ?_
  refine rm_iconst (v := 4) hc dX1_copyFrom_3 (by decide) ?_
  refine rm_icmp_ge (tgt := 28) hc dX1_copyFrom_4 (by decide) (fun h => absurd h (by decide)) (fun _ => ?_)
  refine rm_aload_n hc dX1_copyFrom_7 rfl rfl ?_
  refine rm_get hc dX1_copyFrom_8 fl_X1_11 (dm_4 (by omega) (by omega) (by omega)) rfl rfl ?_
  refine rm_iload_n hc dX1_copyFrom_11 rfl rfl ?_
  refine rm_aald (t0 := 3) (i := 0) (v := .ref (ad k (d + 20) 0)) hc dX1_copyFrom_12 (dm_5 (by omega) (by omega) (by omega)) rfl rfl (by omega) (by decide) rfl rfl ?_
  refine rm_aload_n hc dX1_copyFrom_13 rfl rfl ?_
  refine rm_get hc dX1_copyFrom_14 fl_X1_11 (dm_4 (by omega) (by omega) (by omega)) rfl rfl ?_
  refine rm_iload_n hc dX1_copyFrom_17 rfl rfl ?_
  refine rm_aald (t0 := 3) (i := 0) (v := .ref (ad k2 (d2 + 20) 0)) hc dX1_copyFrom_18 (dm_5 (by omega) (by omega) (by omega)) rfl rfl (by omega) (by decide) rfl rfl ?_
  refine rm_callvV (As := [.ref (ad k2 (d2 + 20) 0)]) (rest := []) hc dX1_copyFrom_19 (c_X5_copyFrom hI x (k := k) (d := d) (s0 := 0) (k2 := k2) (d2 := d2) (by omega) (by omega) (by omega) (by omega) (by omega) (by omega) (by omega) hkk (by subst_vars; first | exact hfl _ (by omega) | (simp only [cpS_b hkk]; exact hfl _ (by omega)))) mv_X1_18 (dm_s (d := d) (by omega) (by omega) (by omega) (by omega)) rfl rfl (hn := rfl) (hst := rfl) (hw := Nat.le_of_ble_eq_true rfl) (hR := ⟨⟨rfl, rfl⟩, Nat.le_of_ble_eq_true rfl, Nat.le_of_ble_eq_true rfl⟩) (hnc := ⟨Nat.zero_le _, Nat.zero_le _⟩) (fun y2 h2 => ?_)
  refine rm_iinc (v := 1) (ls' := [(0, .ref (ad k 4 d)), (1, .ref (ad k2 4 d2)), (2, .int 1)]) hc dX1_copyFrom_22 rfl (by decide) (by decide) rfl ?_
  refine rm_goto (tgt := 2) hc dX1_copyFrom_25 (by decide) ?_
  refine rm_iload_n hc dX1_copyFrom_2 rfl rfl ?_
  refine rm_iconst (v := 4) hc dX1_copyFrom_3 (by decide) ?_
  refine rm_icmp_ge (tgt := 28) hc dX1_copyFrom_4 (by decide) (fun h => absurd h (by decide)) (fun _ => ?_)
  refine rm_aload_n hc dX1_copyFrom_7 rfl rfl ?_
  refine rm_get hc dX1_copyFrom_8 fl_X1_11 (dm_4 (by omega) (by omega) (by omega)) rfl rfl ?_
  refine rm_iload_n hc dX1_copyFrom_11 rfl rfl ?_
  refine rm_aald (t0 := 3) (i := 1) (v := .ref (ad k (d + 20) 1)) hc dX1_copyFrom_12 (dm_5 (by omega) (by omega) (by omega)) rfl rfl (by omega) (by decide) rfl rfl ?_
  refine rm_aload_n hc dX1_copyFrom_13 rfl rfl ?_
  refine rm_get hc dX1_copyFrom_14 fl_X1_11 (dm_4 (by omega) (by omega) (by omega)) rfl rfl ?_
  refine rm_iload_n hc dX1_copyFrom_17 rfl rfl ?_
  refine rm_aald (t0 := 3) (i := 1) (v := .ref (ad k2 (d2 + 20) 1)) hc dX1_copyFrom_18 (dm_5 (by omega) (by omega) (by omega)) rfl rfl (by omega) (by decide) rfl rfl ?_
  refine rm_callvV (As := [.ref (ad k2 (d2 + 20) 1)]) (rest := []) hc dX1_copyFrom_19 (c_X5_copyFrom hI y2 (k := k) (d := d) (s0 := 1) (k2 := k2) (d2 := d2) (by omega) (by omega) (by omega) (by omega) (by omega) (by omega) (by omega) hkk (by subst_vars; first | exact hfl _ (by omega) | (simp only [cpS_b hkk]; exact hfl _ (by omega)))) mv_X1_18 (dm_s (d := d) (by omega) (by omega) (by omega) (by omega)) rfl rfl (hn := rfl) (hst := rfl) (hw := Nat.le_of_ble_eq_true rfl) (hR := ⟨⟨rfl, rfl⟩, Nat.le_of_ble_eq_true rfl, Nat.le_of_ble_eq_true rfl⟩) (hnc := ⟨Nat.zero_le _, Nat.zero_le _⟩) (fun y4 h4 => ?_)
  refine rm_iinc (v := 2) (ls' := [(0, .ref (ad k 4 d)), (1, .ref (ad k2 4 d2)), (2, .int 2)]) hc dX1_copyFrom_22 rfl (by decide) (by decide) rfl ?_
  refine rm_goto (tgt := 2) hc dX1_copyFrom_25 (by decide) ?_
  refine rm_iload_n hc dX1_copyFrom_2 rfl rfl ?_
  refine rm_iconst (v := 4) hc dX1_copyFrom_3 (by decide) ?_
  refine rm_icmp_ge (tgt := 28) hc dX1_copyFrom_4 (by decide) (fun h => absurd h (by decide)) (fun _ => ?_)
  refine rm_aload_n hc dX1_copyFrom_7 rfl rfl ?_
  refine rm_get hc dX1_copyFrom_8 fl_X1_11 (dm_4 (by omega) (by omega) (by omega)) rfl rfl ?_
  refine rm_iload_n hc dX1_copyFrom_11 rfl rfl ?_
  refine rm_aald (t0 := 3) (i := 2) (v := .ref (ad k (d + 20) 2)) hc dX1_copyFrom_12 (dm_5 (by omega) (by omega) (by omega)) rfl rfl (by omega) (by decide) rfl rfl ?_
  refine rm_aload_n hc dX1_copyFrom_13 rfl rfl ?_
  refine rm_get hc dX1_copyFrom_14 fl_X1_11 (dm_4 (by omega) (by omega) (by omega)) rfl rfl ?_
  refine rm_iload_n hc dX1_copyFrom_17 rfl rfl ?_
  refine rm_aald (t0 := 3) (i := 2) (v := .ref (ad k2 (d2 + 20) 2)) hc dX1_copyFrom_18 (dm_5 (by omega) (by omega) (by omega)) rfl rfl (by omega) (by decide) rfl rfl ?_
  refine rm_callvV (As := [.ref (ad k2 (d2 + 20) 2)]) (rest := []) hc dX1_copyFrom_19 (c_X5_copyFrom hI y4 (k := k) (d := d) (s0 := 2) (k2 := k2) (d2 := d2) (by omega) (by omega) (by omega) (by omega) (by omega) (by omega) (by omega) hkk (by subst_vars; first | exact hfl _ (by omega) | (simp only [cpS_b hkk]; exact hfl _ (by omega)))) mv_X1_18 (dm_s (d := d) (by omega) (by omega) (by omega) (by omega)) rfl rfl (hn := rfl) (hst := rfl) (hw := Nat.le_of_ble_eq_true rfl) (hR := ⟨⟨rfl, rfl⟩, Nat.le_of_ble_eq_true rfl, Nat.le_of_ble_eq_true rfl⟩) (hnc := ⟨Nat.zero_le _, Nat.zero_le _⟩) (fun y6 h6 => ?_)
  refine rm_iinc (v := 3) (ls' := [(0, .ref (ad k 4 d)), (1, .ref (ad k2 4 d2)), (2, .int 3)]) hc dX1_copyFrom_22 rfl (by decide) (by decide) rfl ?_
  refine rm_goto (tgt := 2) hc dX1_copyFrom_25 (by decide) ?_
  refine rm_iload_n hc dX1_copyFrom_2 rfl rfl ?_
  refine rm_iconst (v := 4) hc dX1_copyFrom_3 (by decide) ?_
  refine rm_icmp_ge (tgt := 28) hc dX1_copyFrom_4 (by decide) (fun h => absurd h (by decide)) (fun _ => ?_)
  refine rm_aload_n hc dX1_copyFrom_7 rfl rfl ?_
  refine rm_get hc dX1_copyFrom_8 fl_X1_11 (dm_4 (by omega) (by omega) (by omega)) rfl rfl ?_
  refine rm_iload_n hc dX1_copyFrom_11 rfl rfl ?_
  refine rm_aald (t0 := 3) (i := 3) (v := .ref (ad k (d + 20) 3)) hc dX1_copyFrom_12 (dm_5 (by omega) (by omega) (by omega)) rfl rfl (by omega) (by decide) rfl rfl ?_
  refine rm_aload_n hc dX1_copyFrom_13 rfl rfl ?_
  refine rm_get hc dX1_copyFrom_14 fl_X1_11 (dm_4 (by omega) (by omega) (by omega)) rfl rfl ?_
  refine rm_iload_n hc dX1_copyFrom_17 rfl rfl ?_
  refine rm_aald (t0 := 3) (i := 3) (v := .ref (ad k2 (d2 + 20) 3)) hc dX1_copyFrom_18 (dm_5 (by omega) (by omega) (by omega)) rfl rfl (by omega) (by decide) rfl rfl ?_
  refine rm_callvV (As := [.ref (ad k2 (d2 + 20) 3)]) (rest := []) hc dX1_copyFrom_19 (c_X5_copyFrom hI y6 (k := k) (d := d) (s0 := 3) (k2 := k2) (d2 := d2) (by omega) (by omega) (by omega) (by omega) (by omega) (by omega) (by omega) hkk (by subst_vars; first | exact hfl _ (by omega) | (simp only [cpS_b hkk]; exact hfl _ (by omega)))) mv_X1_18 (dm_s (d := d) (by omega) (by omega) (by omega) (by omega)) rfl rfl (hn := rfl) (hst := rfl) (hw := Nat.le_of_ble_eq_true rfl) (hR := ⟨⟨rfl, rfl⟩, Nat.le_of_ble_eq_true rfl, Nat.le_of_ble_eq_true rfl⟩) (hnc := ⟨Nat.zero_le _, Nat.zero_le _⟩) (fun y8 h8 => ?_)
  refine rm_iinc (v := 4) (ls' := [(0, .ref (ad k 4 d)), (1, .ref (ad k2 4 d2)), (2, .int 4)]) hc dX1_copyFrom_22 rfl (by decide) (by decide) rfl ?_
  refine rm_goto (tgt := 2) hc dX1_copyFrom_25 (by decide) ?_
  refine rm_iload_n hc dX1_copyFrom_2 rfl rfl ?_
  refine rm_iconst (v := 4) hc dX1_copyFrom_3 (by decide) ?_
  refine rm_icmp_ge (tgt := 28) hc dX1_copyFrom_4 (by decide) (fun _ => ?_) (fun h => absurd (by decide) h)
  refine rm_aload_n hc dX1_copyFrom_28 rfl rfl ?_
  refine rm_aload_n hc dX1_copyFrom_29 rfl rfl ?_
  refine rm_geti hc dX1_copyFrom_30 fl_X1_22 (dm_4 (by omega) (by omega) (by omega)) rfl rfl (fun v10 e10 => ?_)
  refine rm_put hc dX1_copyFrom_33 fl_X1_22 (dm_4 (by omega) (by omega) (by omega)) rfl (Nat.le_of_ble_eq_true rfl) ft_1_1 (nrb (by subst_vars; simp only [cpS_b hkk]; exact hfo)) (ftb (by subst_vars; simp only [cpS_b hkk]; exact hfo)) (so_4_1 (by omega) (by omega)) (rm_nm (fun x11 ex11 => ?_))
  refine rm_aload_n hc dX1_copyFrom_36 rfl rfl ?_
  refine rm_aload_n hc dX1_copyFrom_37 rfl rfl ?_
  refine rm_geti hc dX1_copyFrom_38 fl_X1_26 (dm_4 (by omega) (by omega) (by omega)) rfl rfl (fun v12 e12 => ?_)
  refine rm_put hc dX1_copyFrom_41 fl_X1_26 (dm_4 (by omega) (by omega) (by omega)) rfl (Nat.le_of_ble_eq_true rfl) ft_1_2 rfl rfl (so_4_2 (by omega) (by omega)) (rm_nm (fun x13 ex13 => ?_))
  refine rm_aload_n hc dX1_copyFrom_44 rfl rfl ?_
  refine rm_aload_n hc dX1_copyFrom_45 rfl rfl ?_
  refine rm_geti hc dX1_copyFrom_46 fl_X1_30 (dm_4 (by omega) (by omega) (by omega)) rfl rfl (fun v14 e14 => ?_)
  refine rm_put hc dX1_copyFrom_49 fl_X1_30 (dm_4 (by omega) (by omega) (by omega)) rfl (Nat.le_of_ble_eq_true rfl) ft_1_3 rfl rfl (so_4_3 (by omega) (by omega)) (rm_nm (fun x15 ex15 => ?_))
  refine rm_aload_n hc dX1_copyFrom_52 rfl rfl ?_
  refine rm_aload_n hc dX1_copyFrom_53 rfl rfl ?_
  refine rm_geti hc dX1_copyFrom_54 fl_X1_33 (dm_4 (by omega) (by omega) (by omega)) rfl rfl (fun v16 e16 => ?_)
  refine rm_put hc dX1_copyFrom_57 fl_X1_33 (dm_4 (by omega) (by omega) (by omega)) rfl (Nat.le_of_ble_eq_true rfl) ft_1_4 rfl rfl (so_4_4 (by omega) (by omega)) (rm_nm (fun x17 ex17 => ?_))
  refine rm_aload_n hc dX1_copyFrom_60 rfl rfl ?_
  refine rm_aload_n hc dX1_copyFrom_61 rfl rfl ?_
  refine rm_geti hc dX1_copyFrom_62 fl_X1_36 (dm_4 (by omega) (by omega) (by omega)) rfl rfl (fun v18 e18 => ?_)
  refine rm_put hc dX1_copyFrom_65 fl_X1_36 (dm_4 (by omega) (by omega) (by omega)) rfl (Nat.le_of_ble_eq_true rfl) ft_1_5 rfl rfl (so_4_5 (by omega) (by omega)) (rm_nm (fun x19 ex19 => ?_))
  refine rm_aload_n hc dX1_copyFrom_68 rfl rfl ?_
  refine rm_aload_n hc dX1_copyFrom_69 rfl rfl ?_
  refine rm_geti hc dX1_copyFrom_70 fl_X1_39 (dm_4 (by omega) (by omega) (by omega)) rfl rfl (fun v20 e20 => ?_)
  refine rm_put hc dX1_copyFrom_73 fl_X1_39 (dm_4 (by omega) (by omega) (by omega)) rfl (Nat.le_of_ble_eq_true rfl) ft_1_6 rfl rfl (so_4_6 (by omega) (by omega)) (rm_nm (fun x21 ex21 => ?_))
  exact rm_vret hc dX1_copyFrom_76 (by subst_vars; rw [show 31 + 22 * d = 30 + 22 * d + 1 by omega, show 32 + 22 * d = 30 + 22 * d + 2 by omega, show 33 + 22 * d = 30 + 22 * d + 3 by omega, show 34 + 22 * d = 30 + 22 * d + 4 by omega, show 35 + 22 * d = 30 + 22 * d + 5 by omega, show 36 + 22 * d + 4 * 0 = 30 + 22 * d + 6 by omega, show 36 + 22 * d + 4 * 1 = 30 + 22 * d + 10 by omega, show 36 + 22 * d + 4 * 2 = 30 + 22 * d + 14 by omega, show 36 + 22 * d + 4 * 3 = 30 + 22 * d + 18 by omega, show 31 + 22 * d2 = 30 + 22 * d2 + 1 by omega, show 32 + 22 * d2 = 30 + 22 * d2 + 2 by omega, show 33 + 22 * d2 = 30 + 22 * d2 + 3 by omega, show 34 + 22 * d2 = 30 + 22 * d2 + 4 by omega, show 35 + 22 * d2 = 30 + 22 * d2 + 5 by omega, show 36 + 22 * d2 + 4 * 0 = 30 + 22 * d2 + 6 by omega, show 36 + 22 * d2 + 4 * 1 = 30 + 22 * d2 + 10 by omega, show 36 + 22 * d2 + 4 * 2 = 30 + 22 * d2 + 14 by omega, show 36 + 22 * d2 + 4 * 3 = 30 + 22 * d2 + 18 by omega, cpn_6 hkk, cpDoor hkk])

abbrev rm_X1_learntSlots : Room := { frames := 1, cells := 0, slots := 0, locals := 21 }
set_option maxHeartbeats 4000000 in
set_option maxRecDepth 100000 in
theorem c_X1_learntSlots {l : Launch} {D : va_G} {cy : Nat → ClassId} {ad : Ads} (hI : IJ ad) (x : Mem) {k d : Nat} (hk : k < 8) (hd3 : d < 3) (hkd : k = 7 → d = 0) : Cti l yX1_learntSlots cX1_learntSlots 6 (some .int) rm_X1_learntSlots D cy ad [.ref (ad k 4 d)] x (fun r y => r = lrnD x k d ∧ y = x) := by
  refine rm_entry (Qc := Qi D cy ad (fun r y => r = lrnD x k d ∧ y = x)) hI (by decide) (Nat.le_of_ble_eq_true rfl) ?_
  intro p e s m args below meth c hc
  show RM _ _ _ _ _ _ _ _ _ _ _ _ _ _ _ _ _ [(0, .ref (ad k 4 d))] []
  refine rm_iconst (v := 0) hc dX1_learntSlots_0 (by decide) ?_
  refine rm_istore_n (ls' := [(0, .ref (ad k 4 d)), (1, .int 0)]) hc dX1_learntSlots_1 rfl (by decide) rfl ?_
  refine rm_aload_n hc dX1_learntSlots_2 rfl rfl ?_
  refine rm_get hc dX1_learntSlots_3 fl_X1_11 (dm_4 (by omega) (by omega) (by omega)) rfl rfl ?_
  refine rm_astore_n (ls' := [(0, .ref (ad k 4 d)), (1, .int 0), (2, .ref (ad k 5 d))]) hc dX1_learntSlots_6 rfl (by decide) rfl ?_
  refine rm_aload_n hc dX1_learntSlots_7 rfl rfl ?_
  refine rm_alen (n := 0) (t0 := 3) (v := 4) hc dX1_learntSlots_8 (dm_5 (by omega) (by omega) (by omega)) rfl rfl rfl ?_
  refine rm_istore_n (ls' := [(0, .ref (ad k 4 d)), (1, .int 0), (2, .ref (ad k 5 d)), (3, .int 4)]) hc dX1_learntSlots_9 rfl (by decide) rfl ?_
  refine rm_iconst (v := 0) hc dX1_learntSlots_10 (by decide) ?_
  refine rm_istore (ls' := [(0, .ref (ad k 4 d)), (1, .int 0), (2, .ref (ad k 5 d)), (3, .int 4), (4, .int 0)]) hc dX1_learntSlots_11 (by decide) rfl ?_
  refine rm_iload hc dX1_learntSlots_13 rfl ?_
  refine rm_iload_n hc dX1_learntSlots_15 rfl rfl ?_
  refine rm_icmp_ge (tgt := 40) hc dX1_learntSlots_16 (by decide) (fun h => absurd h (by decide)) (fun _ => ?_)
  refine rm_aload_n hc dX1_learntSlots_19 rfl rfl ?_
  refine rm_iload hc dX1_learntSlots_20 rfl ?_
  refine rm_aald (t0 := 3) (i := 0) (v := .ref (ad k (d + 20) 0)) hc dX1_learntSlots_22 (dm_5 (by omega) (by omega) (by omega)) rfl rfl (by omega) (by decide) rfl rfl ?_
  refine rm_astore (ls' := [(0, .ref (ad k 4 d)), (1, .int 0), (2, .ref (ad k 5 d)), (3, .int 4), (4, .int 0), (5, .ref (ad k (d + 20) 0))]) hc dX1_learntSlots_23 (by decide) rfl ?_
  refine rm_iload_n hc dX1_learntSlots_25 rfl rfl ?_
  refine rm_aload hc dX1_learntSlots_26 rfl ?_
  refine rm_iconst (v := 0) hc dX1_learntSlots_28 (by decide) ?_
  refine rm_calliV (As := [.int 0]) (rest := [.int 0]) hc dX1_learntSlots_29 (c_X5_look hI x (k := k) (d := d) (s0 := 0) (by omega) (by omega) (by omega) (by omega) 0) mv_X1_47 (dm_s (d := d) (by omega) (by omega) (by omega) (by omega)) rfl rfl (hn := rfl) (hst := rfl) (hw := Nat.le_of_ble_eq_true rfl) (hR := ⟨⟨rfl, rfl⟩, Nat.le_of_ble_eq_true rfl, Nat.le_of_ble_eq_true rfl⟩) (hnc := ⟨Nat.zero_le _, Nat.zero_le _⟩) (fun r2 y2 h2 => ?_)
  obtain ⟨e2, ey2⟩ := h2
  obtain rfl := ey2.symm
  refine rm_iadd hc dX1_learntSlots_32 (fun v3 e3 => ?_)
  refine rm_istore_n (ls' := [(0, .ref (ad k 4 d)), (1, .int v3), (2, .ref (ad k 5 d)), (3, .int 4), (4, .int 0), (5, .ref (ad k (d + 20) 0))]) hc dX1_learntSlots_33 rfl (by decide) rfl ?_
  refine rm_iinc (v := 1) (ls' := [(0, .ref (ad k 4 d)), (1, .int v3), (2, .ref (ad k 5 d)), (3, .int 4), (4, .int 1), (5, .ref (ad k (d + 20) 0))]) hc dX1_learntSlots_34 rfl (by decide) (by decide) rfl ?_
  refine rm_goto (tgt := 13) hc dX1_learntSlots_37 (by decide) ?_
  refine rm_iload hc dX1_learntSlots_13 rfl ?_
  refine rm_iload_n hc dX1_learntSlots_15 rfl rfl ?_
  refine rm_icmp_ge (tgt := 40) hc dX1_learntSlots_16 (by decide) (fun h => absurd h (by decide)) (fun _ => ?_)
  refine rm_aload_n hc dX1_learntSlots_19 rfl rfl ?_
  refine rm_iload hc dX1_learntSlots_20 rfl ?_
  refine rm_aald (t0 := 3) (i := 1) (v := .ref (ad k (d + 20) 1)) hc dX1_learntSlots_22 (dm_5 (by omega) (by omega) (by omega)) rfl rfl (by omega) (by decide) rfl rfl ?_
  refine rm_astore (ls' := [(0, .ref (ad k 4 d)), (1, .int v3), (2, .ref (ad k 5 d)), (3, .int 4), (4, .int 1), (5, .ref (ad k (d + 20) 1))]) hc dX1_learntSlots_23 (by decide) rfl ?_
  refine rm_iload_n hc dX1_learntSlots_25 rfl rfl ?_
  refine rm_aload hc dX1_learntSlots_26 rfl ?_
  refine rm_iconst (v := 0) hc dX1_learntSlots_28 (by decide) ?_
  refine rm_calliV (As := [.int 0]) (rest := [.int v3]) hc dX1_learntSlots_29 (c_X5_look hI x (k := k) (d := d) (s0 := 1) (by omega) (by omega) (by omega) (by omega) 0) mv_X1_47 (dm_s (d := d) (by omega) (by omega) (by omega) (by omega)) rfl rfl (hn := rfl) (hst := rfl) (hw := Nat.le_of_ble_eq_true rfl) (hR := ⟨⟨rfl, rfl⟩, Nat.le_of_ble_eq_true rfl, Nat.le_of_ble_eq_true rfl⟩) (hnc := ⟨Nat.zero_le _, Nat.zero_le _⟩) (fun r5 y5 h5 => ?_)
  obtain ⟨e5, ey5⟩ := h5
  obtain rfl := ey5.symm
  refine rm_iadd hc dX1_learntSlots_32 (fun v6 e6 => ?_)
  refine rm_istore_n (ls' := [(0, .ref (ad k 4 d)), (1, .int v6), (2, .ref (ad k 5 d)), (3, .int 4), (4, .int 1), (5, .ref (ad k (d + 20) 1))]) hc dX1_learntSlots_33 rfl (by decide) rfl ?_
  refine rm_iinc (v := 2) (ls' := [(0, .ref (ad k 4 d)), (1, .int v6), (2, .ref (ad k 5 d)), (3, .int 4), (4, .int 2), (5, .ref (ad k (d + 20) 1))]) hc dX1_learntSlots_34 rfl (by decide) (by decide) rfl ?_
  refine rm_goto (tgt := 13) hc dX1_learntSlots_37 (by decide) ?_
  refine rm_iload hc dX1_learntSlots_13 rfl ?_
  refine rm_iload_n hc dX1_learntSlots_15 rfl rfl ?_
  refine rm_icmp_ge (tgt := 40) hc dX1_learntSlots_16 (by decide) (fun h => absurd h (by decide)) (fun _ => ?_)
  refine rm_aload_n hc dX1_learntSlots_19 rfl rfl ?_
  refine rm_iload hc dX1_learntSlots_20 rfl ?_
  refine rm_aald (t0 := 3) (i := 2) (v := .ref (ad k (d + 20) 2)) hc dX1_learntSlots_22 (dm_5 (by omega) (by omega) (by omega)) rfl rfl (by omega) (by decide) rfl rfl ?_
  refine rm_astore (ls' := [(0, .ref (ad k 4 d)), (1, .int v6), (2, .ref (ad k 5 d)), (3, .int 4), (4, .int 2), (5, .ref (ad k (d + 20) 2))]) hc dX1_learntSlots_23 (by decide) rfl ?_
  refine rm_iload_n hc dX1_learntSlots_25 rfl rfl ?_
  refine rm_aload hc dX1_learntSlots_26 rfl ?_
  refine rm_iconst (v := 0) hc dX1_learntSlots_28 (by decide) ?_
  refine rm_calliV (As := [.int 0]) (rest := [.int v6]) hc dX1_learntSlots_29 (c_X5_look hI x (k := k) (d := d) (s0 := 2) (by omega) (by omega) (by omega) (by omega) 0) mv_X1_47 (dm_s (d := d) (by omega) (by omega) (by omega) (by omega)) rfl rfl (hn := rfl) (hst := rfl) (hw := Nat.le_of_ble_eq_true rfl) (hR := ⟨⟨rfl, rfl⟩, Nat.le_of_ble_eq_true rfl, Nat.le_of_ble_eq_true rfl⟩) (hnc := ⟨Nat.zero_le _, Nat.zero_le _⟩) (fun r8 y8 h8 => ?_)
  obtain ⟨e8, ey8⟩ := h8
  obtain rfl := ey8.symm
  refine rm_iadd hc dX1_learntSlots_32 (fun v9 e9 => ?_)
  refine rm_istore_n (ls' := [(0, .ref (ad k 4 d)), (1, .int v9), (2, .ref (ad k 5 d)), (3, .int 4), (4, .int 2), (5, .ref (ad k (d + 20) 2))]) hc dX1_learntSlots_33 rfl (by decide) rfl ?_
  refine rm_iinc (v := 3) (ls' := [(0, .ref (ad k 4 d)), (1, .int v9), (2, .ref (ad k 5 d)), (3, .int 4), (4, .int 3), (5, .ref (ad k (d + 20) 2))]) hc dX1_learntSlots_34 rfl (by decide) (by decide) rfl ?_
  refine rm_goto (tgt := 13) hc dX1_learntSlots_37 (by decide) ?_
  refine rm_iload hc dX1_learntSlots_13 rfl ?_
  refine rm_iload_n hc dX1_learntSlots_15 rfl rfl ?_
  refine rm_icmp_ge (tgt := 40) hc dX1_learntSlots_16 (by decide) (fun h => absurd h (by decide)) (fun _ => ?_)
  refine rm_aload_n hc dX1_learntSlots_19 rfl rfl ?_
  refine rm_iload hc dX1_learntSlots_20 rfl ?_
  refine rm_aald (t0 := 3) (i := 3) (v := .ref (ad k (d + 20) 3)) hc dX1_learntSlots_22 (dm_5 (by omega) (by omega) (by omega)) rfl rfl (by omega) (by decide) rfl rfl ?_
  refine rm_astore (ls' := [(0, .ref (ad k 4 d)), (1, .int v9), (2, .ref (ad k 5 d)), (3, .int 4), (4, .int 3), (5, .ref (ad k (d + 20) 3))]) hc dX1_learntSlots_23 (by decide) rfl ?_
  refine rm_iload_n hc dX1_learntSlots_25 rfl rfl ?_
  refine rm_aload hc dX1_learntSlots_26 rfl ?_
  refine rm_iconst (v := 0) hc dX1_learntSlots_28 (by decide) ?_
  refine rm_calliV (As := [.int 0]) (rest := [.int v9]) hc dX1_learntSlots_29 (c_X5_look hI x (k := k) (d := d) (s0 := 3) (by omega) (by omega) (by omega) (by omega) 0) mv_X1_47 (dm_s (d := d) (by omega) (by omega) (by omega) (by omega)) rfl rfl (hn := rfl) (hst := rfl) (hw := Nat.le_of_ble_eq_true rfl) (hR := ⟨⟨rfl, rfl⟩, Nat.le_of_ble_eq_true rfl, Nat.le_of_ble_eq_true rfl⟩) (hnc := ⟨Nat.zero_le _, Nat.zero_le _⟩) (fun r11 y11 h11 => ?_)
  obtain ⟨e11, ey11⟩ := h11
  obtain rfl := ey11.symm
  refine rm_iadd hc dX1_learntSlots_32 (fun v12 e12 => ?_)
  refine rm_istore_n (ls' := [(0, .ref (ad k 4 d)), (1, .int v12), (2, .ref (ad k 5 d)), (3, .int 4), (4, .int 3), (5, .ref (ad k (d + 20) 3))]) hc dX1_learntSlots_33 rfl (by decide) rfl ?_
  refine rm_iinc (v := 4) (ls' := [(0, .ref (ad k 4 d)), (1, .int v12), (2, .ref (ad k 5 d)), (3, .int 4), (4, .int 4), (5, .ref (ad k (d + 20) 3))]) hc dX1_learntSlots_34 rfl (by decide) (by decide) rfl ?_
  refine rm_goto (tgt := 13) hc dX1_learntSlots_37 (by decide) ?_
  refine rm_iload hc dX1_learntSlots_13 rfl ?_
  refine rm_iload_n hc dX1_learntSlots_15 rfl rfl ?_
  refine rm_icmp_ge (tgt := 40) hc dX1_learntSlots_16 (by decide) (fun _ => ?_) (fun h => absurd (by decide) h)
  refine rm_iload_n hc dX1_learntSlots_40 rfl rfl ?_
  exact rm_iret hc dX1_learntSlots_41 ⟨by subst_vars; rfl, rfl⟩

abbrev rm_X1_look : Room := { frames := 2, cells := 0, slots := 0, locals := 46 }
set_option maxHeartbeats 4000000 in
set_option maxRecDepth 100000 in
theorem c_X1_look {l : Launch} {D : va_G} {cy : Nat → ClassId} {ad : Ads} (hI : IJ ad) (x : Mem) {k d k2 : Nat} (hk : k < 8) (hd3 : d < 3) (hkd : k = 7 → d = 0) (hk2 : k2 < 7) (w : Int32) : Cti l yX1_look cX1_look 3 (some .int) rm_X1_look D cy ad [.ref (ad k 4 d), .int w, .ref (ad k2 8 0)] x (fun r y => r = lookDoor x k d (x k2 2) w ∧ y = x) := by
  refine rm_entry (Qc := Qi D cy ad (fun r y => r = lookDoor x k d (x k2 2) w ∧ y = x)) hI (by decide) (Nat.le_of_ble_eq_true rfl) ?_
  intro p e s m args below meth c hc
  show RM _ _ _ _ _ _ _ _ _ _ _ _ _ _ _ _ _ [(0, .ref (ad k 4 d)), (1, .int w), (2, .ref (ad k2 8 0))] []
  refine rm_iload_n hc dX1_look_0 rfl rfl ?_
  by_cases z1 : w = 0
  · --case 0
    subst z1
    refine rm_tin (off := 47) (tgt := 48) hc dX1_look_1 (by decide) (by decide) (by decide) (by decide) ?_
    refine rm_aload_n hc dX1_look_48 rfl rfl ?_
    refine rm_geti hc dX1_look_49 fl_X1_22 (dm_4 (by omega) (by omega) (by omega)) rfl rfl (fun v2 e2 => ?_)
    refine rm_if_eq (tgt := 59) hc dX1_look_52 (by decide) (fun c3 => ?_) (fun c3 => ?_)
    · --T
      refine rm_iconst (v := 0) hc dX1_look_59 (by decide) ?_
      exact rm_iret hc dX1_look_60 ⟨by subst_vars; simp [lookDoor, *], rfl⟩
    · --F
      refine rm_iconst (v := 1) hc dX1_look_55 (by decide) ?_
      refine rm_goto (tgt := 60) hc dX1_look_56 (by decide) ?_
      exact rm_iret hc dX1_look_60 ⟨by subst_vars; simp [lookDoor, *], rfl⟩
  by_cases z4 : w = 1
  · --case 1
    subst z4
    refine rm_tin (off := 60) (tgt := 61) hc dX1_look_1 (by decide) (by decide) (by decide) (by decide) ?_
    refine rm_aload_n hc dX1_look_61 rfl rfl ?_
    refine rm_geti hc dX1_look_62 fl_X1_26 (dm_4 (by omega) (by omega) (by omega)) rfl rfl (fun v5 e5 => ?_)
    exact rm_iret hc dX1_look_65 ⟨by subst_vars; simp [lookDoor, *], rfl⟩
  by_cases z6 : w = 2
  · --case 2
    subst z6
    refine rm_tin (off := 65) (tgt := 66) hc dX1_look_1 (by decide) (by decide) (by decide) (by decide) ?_
    refine rm_aload_n hc dX1_look_66 rfl rfl ?_
    refine rm_aload_n hc dX1_look_67 rfl rfl ?_
    refine rm_calliV (As := [.ref (ad k2 8 0)]) (rest := []) hc dX1_look_68 (c_X1_isLocked hI x (k := k) (d := d) (k2 := k2) (by omega) (by omega) (by omega) (by omega)) mv_X1_51 (dm_4 (by omega) (by omega) (by omega)) rfl rfl (hn := rfl) (hst := rfl) (hw := Nat.le_of_ble_eq_true rfl) (hR := ⟨⟨rfl, rfl⟩, Nat.le_of_ble_eq_true rfl, Nat.le_of_ble_eq_true rfl⟩) (hnc := ⟨Nat.zero_le _, Nat.zero_le _⟩) (fun r7 y7 h7 => ?_)
    obtain ⟨e7, ey7⟩ := h7
    obtain rfl := ey7.symm
    refine rm_if_eq (tgt := 78) hc dX1_look_71 (by decide) (fun c8 => ?_) (fun c8 => ?_)
    · --T
      refine rm_iconst (v := 0) hc dX1_look_78 (by decide) ?_
      exact rm_iret hc dX1_look_79 ⟨by subst_vars; simp [lookDoor, *], rfl⟩
    · --F
      refine rm_iconst (v := 1) hc dX1_look_74 (by decide) ?_
      refine rm_goto (tgt := 79) hc dX1_look_75 (by decide) ?_
      exact rm_iret hc dX1_look_79 ⟨by subst_vars; simp [lookDoor, *], rfl⟩
  by_cases z9 : w = 3
  · --case 3
    subst z9
    refine rm_tin (off := 79) (tgt := 80) hc dX1_look_1 (by decide) (by decide) (by decide) (by decide) ?_
    refine rm_aload_n hc dX1_look_80 rfl rfl ?_
    refine rm_calliV (As := []) (rest := []) hc dX1_look_81 (c_X1_learntSlots hI x (k := k) (d := d) (by omega) (by omega) (by omega)) mv_X1_69 (dm_4 (by omega) (by omega) (by omega)) rfl rfl (hn := rfl) (hst := rfl) (hw := Nat.le_of_ble_eq_true rfl) (hR := ⟨⟨rfl, rfl⟩, Nat.le_of_ble_eq_true rfl, Nat.le_of_ble_eq_true rfl⟩) (hnc := ⟨Nat.zero_le _, Nat.zero_le _⟩) (fun r10 y10 h10 => ?_)
    obtain ⟨e10, ey10⟩ := h10
    obtain rfl := ey10.symm
    exact rm_iret hc dX1_look_84 ⟨by subst_vars; simp [lookDoor, *], rfl⟩
  by_cases z11 : w = 4
  · --case 4
    subst z11
    refine rm_tin (off := 84) (tgt := 85) hc dX1_look_1 (by decide) (by decide) (by decide) (by decide) ?_
    refine rm_aload_n hc dX1_look_85 rfl rfl ?_
    refine rm_geti hc dX1_look_86 fl_X1_30 (dm_4 (by omega) (by omega) (by omega)) rfl rfl (fun v12 e12 => ?_)
    exact rm_iret hc dX1_look_89 ⟨by subst_vars; simp [lookDoor, *], rfl⟩
  by_cases z13 : w = 5
  · --case 5
    subst z13
    refine rm_tin (off := 89) (tgt := 90) hc dX1_look_1 (by decide) (by decide) (by decide) (by decide) ?_
    refine rm_aload_n hc dX1_look_90 rfl rfl ?_
    refine rm_geti hc dX1_look_91 fl_X1_33 (dm_4 (by omega) (by omega) (by omega)) rfl rfl (fun v14 e14 => ?_)
    exact rm_iret hc dX1_look_94 ⟨by subst_vars; simp [lookDoor, *], rfl⟩
  by_cases z15 : w = 6
  · --case 6
    subst z15
    refine rm_tin (off := 94) (tgt := 95) hc dX1_look_1 (by decide) (by decide) (by decide) (by decide) ?_
    refine rm_aload_n hc dX1_look_95 rfl rfl ?_
    refine rm_geti hc dX1_look_96 fl_X1_36 (dm_4 (by omega) (by omega) (by omega)) rfl rfl (fun v16 e16 => ?_)
    exact rm_iret hc dX1_look_99 ⟨by subst_vars; simp [lookDoor, *], rfl⟩
  by_cases z17 : w = 7
  · --case 7
    subst z17
    refine rm_tin (off := 99) (tgt := 100) hc dX1_look_1 (by decide) (by decide) (by decide) (by decide) ?_
    refine rm_aload_n hc dX1_look_100 rfl rfl ?_
    refine rm_geti hc dX1_look_101 fl_X1_39 (dm_4 (by omega) (by omega) (by omega)) rfl rfl (fun v18 e18 => ?_)
    exact rm_iret hc dX1_look_104 ⟨by subst_vars; simp [lookDoor, *], rfl⟩
  refine rm_tout (tgt := 105) hc dX1_look_1 (by have z0 := lv_neT (k := 0) (a := 0) z1 (by decide); have z1 := lv_neT (k := 1) (a := 1) z4 (by decide); have z2 := lv_neT (k := 2) (a := 2) z6 (by decide); have z3 := lv_neT (k := 3) (a := 3) z9 (by decide); have z4 := lv_neT (k := 4) (a := 4) z11 (by decide); have z5 := lv_neT (k := 5) (a := 5) z13 (by decide); have z6 := lv_neT (k := 6) (a := 6) z15 (by decide); have z7 := lv_neT (k := 7) (a := 7) z17 (by decide); omega) (by decide) ?_
  refine rm_iconst (v := -1) hc dX1_look_105 (by decide) ?_
  exact rm_iret hc dX1_look_106 ⟨by subst_vars; simp [lookDoor, *], rfl⟩

abbrev rm_X1_hear : Room := { frames := 2, cells := 0, slots := 0, locals := 45 }
set_option maxHeartbeats 4000000 in
set_option maxRecDepth 100000 in
theorem c_X1_hear {l : Launch} {D : va_G} {cy : Nat → ClassId} {ad : Ads} (hI : IJ ad) (x : Mem) {k d k2 : Nat} (hk : k < 8) (hd3 : d < 3) (hkd : k = 7 → d = 0) (hk2 : k2 < 7) (num wv : Int32) (mm : Nat) (hmm : mm < 2 ^ 30) (hw : x k2 1 = nI mm) (ew : wv = x k2 0) : Cti l yX1_hear cX1_hear 8 (some .int) rm_X1_hear D cy ad [.ref (ad k 4 d), .int num, .ref (ad k2 8 0)] x (fun r y => r = hrR x k d k2 num mm ∧ y = hrM x k d k2 num mm) := by
  refine rm_entry (Qc := Qi D cy ad (fun r y => r = hrR x k d k2 num mm ∧ y = hrM x k d k2 num mm)) hI (by decide) (Nat.le_of_ble_eq_true rfl) ?_
  intro p e s m args below meth c hc
  show RM _ _ _ _ _ _ _ _ _ _ _ _ _ _ _ _ _ [(0, .ref (ad k 4 d)), (1, .int num), (2, .ref (ad k2 8 0))] []
  refine rm_aload_n hc dX1_hear_0 rfl rfl ?_
  refine rm_aload_n hc dX1_hear_1 rfl rfl ?_
  refine rm_calliV (As := [.ref (ad k2 8 0)]) (rest := []) hc dX1_hear_2 (c_X1_isLocked hI x (k := k) (d := d) (k2 := k2) (by omega) (by omega) (by omega) (by omega)) mv_X1_51 (dm_4 (by omega) (by omega) (by omega)) rfl rfl (hn := rfl) (hst := rfl) (hw := Nat.le_of_ble_eq_true rfl) (hR := ⟨⟨rfl, rfl⟩, Nat.le_of_ble_eq_true rfl, Nat.le_of_ble_eq_true rfl⟩) (hnc := ⟨Nat.zero_le _, Nat.zero_le _⟩) (fun r1 y1 h1 => ?_)
  obtain ⟨e1, ey1⟩ := h1
  obtain rfl := ey1.symm
  refine rm_if_eq (tgt := 20) hc dX1_hear_5 (by decide) (fun c2 => ?_) (fun c2 => ?_)
  · --open
    have hL : lockS (x k2 2) (x k (31 + 22 * d)) = 0 := e1.symm.trans c2
    refine rm_aload_n hc dX1_hear_20 rfl rfl ?_
    refine rm_get hc dX1_hear_21 fl_X1_11 (dm_4 (by omega) (by omega) (by omega)) rfl rfl ?_
    refine rm_astore_n (ls' := [(0, .ref (ad k 4 d)), (1, .int num), (2, .ref (ad k2 8 0)), (3, .ref (ad k 5 d))]) hc dX1_hear_24 rfl (by decide) rfl ?_
    refine rm_aload_n hc dX1_hear_25 rfl rfl ?_
    refine rm_alen (n := 0) (t0 := 3) (v := 4) hc dX1_hear_26 (dm_5 (by omega) (by omega) (by omega)) rfl rfl rfl ?_
    refine rm_istore (ls' := [(0, .ref (ad k 4 d)), (1, .int num), (2, .ref (ad k2 8 0)), (3, .ref (ad k 5 d)), (4, .int 4)]) hc dX1_hear_27 (by decide) rfl ?_
    refine rm_iconst (v := 0) hc dX1_hear_29 (by decide) ?_
    refine rm_istore (ls' := [(0, .ref (ad k 4 d)), (1, .int num), (2, .ref (ad k2 8 0)), (3, .ref (ad k 5 d)), (4, .int 4), (5, .int 0)]) hc dX1_hear_30 (by decide) rfl ?_
    refine rm_iload hc dX1_hear_32 rfl ?_
    refine rm_iload hc dX1_hear_34 rfl ?_
    refine rm_icmp_ge (tgt := 121) hc dX1_hear_36 (by decide) (fun h => absurd h (by decide)) (fun _ => ?_)
    refine rm_aload_n hc dX1_hear_39 rfl rfl ?_
    refine rm_iload hc dX1_hear_40 rfl ?_
    refine rm_aald (t0 := 3) (i := 0) (v := .ref (ad k (d + 20) 0)) hc dX1_hear_42 (dm_5 (by omega) (by omega) (by omega)) rfl rfl (by omega) (by decide) rfl rfl ?_
    refine rm_astore (ls' := [(0, .ref (ad k 4 d)), (1, .int num), (2, .ref (ad k2 8 0)), (3, .ref (ad k 5 d)), (4, .int 4), (5, .int 0), (6, .ref (ad k (d + 20) 0))]) hc dX1_hear_43 (by decide) rfl ?_
    refine rm_aload hc dX1_hear_45 rfl ?_
    refine rm_iload_n hc dX1_hear_47 rfl rfl ?_
    refine rm_aload_n hc dX1_hear_48 rfl rfl ?_
    refine rm_geti hc dX1_hear_49 fl_X1_55 (dm_8 (by omega)) rfl rfl (fun v4 e4 => ?_)
    obtain rfl : v4 = nI mm := e4.trans hw
    refine rm_calliV (As := [.int num, .int (nI (mm))]) (rest := []) hc dX1_hear_52 (c_X5_stepsTo hI x (k := k) (d := d) (s0 := 0) (by omega) (by omega) (by omega) (by omega) num mm (by omega)) mv_X1_58 (dm_s (d := d) (by omega) (by omega) (by omega) (by omega)) rfl rfl (hn := rfl) (hst := rfl) (hw := Nat.le_of_ble_eq_true rfl) (hR := ⟨⟨rfl, rfl⟩, Nat.le_of_ble_eq_true rfl, Nat.le_of_ble_eq_true rfl⟩) (hnc := ⟨Nat.zero_le _, Nat.zero_le _⟩) (fun r5 y5 h5 => ?_)
    obtain ⟨e5, ey5⟩ := h5
    obtain rfl := ey5.symm
    have hb5 := stpS_le (x := x) (k := k) (d := d) (s := 0) (num := num) (mm := mm)
    obtain ⟨t5, ht5⟩ : ∃ t5 : Nat, stpS x k d 0 num mm = t5 := ⟨_, rfl⟩
    rw [ht5] at e5 hb5
    obtain rfl := e5
    refine rm_istore (ls' := [(0, .ref (ad k 4 d)), (1, .int num), (2, .ref (ad k2 8 0)), (3, .ref (ad k 5 d)), (4, .int 4), (5, .int 0), (6, .ref (ad k (d + 20) 0)), (7, .int (nI (t5)))]) hc dX1_hear_55 (by decide) rfl ?_
    refine rm_iload hc dX1_hear_57 rfl ?_
    rcases Nat.eq_zero_or_pos t5 with zt5 | zt5
    · --zero
      refine rm_if_le (tgt := 98) hc dX1_hear_59 (by decide) (fun _ => ?_) (fun h => absurd (by rw [zt5]; decide) h)
      refine rm_iload hc dX1_hear_98 rfl ?_
      refine rm_if_le (tgt := 115) hc dX1_hear_100 (by decide) (fun _ => ?_) (fun h => absurd (by rw [zt5]; decide) h)
      refine rm_iinc (v := 1) (ls' := [(0, .ref (ad k 4 d)), (1, .int num), (2, .ref (ad k2 8 0)), (3, .ref (ad k 5 d)), (4, .int 4), (5, .int 1), (6, .ref (ad k (d + 20) 0)), (7, .int (nI (t5)))]) hc dX1_hear_115 rfl (by decide) (by decide) rfl ?_
      refine rm_goto (tgt := 32) hc dX1_hear_118 (by decide) ?_
      refine rm_iload hc dX1_hear_32 rfl ?_
      refine rm_iload hc dX1_hear_34 rfl ?_
      refine rm_icmp_ge (tgt := 121) hc dX1_hear_36 (by decide) (fun h => absurd h (by decide)) (fun _ => ?_)
      refine rm_aload_n hc dX1_hear_39 rfl rfl ?_
      refine rm_iload hc dX1_hear_40 rfl ?_
      refine rm_aald (t0 := 3) (i := 1) (v := .ref (ad k (d + 20) 1)) hc dX1_hear_42 (dm_5 (by omega) (by omega) (by omega)) rfl rfl (by omega) (by decide) rfl rfl ?_
      refine rm_astore (ls' := [(0, .ref (ad k 4 d)), (1, .int num), (2, .ref (ad k2 8 0)), (3, .ref (ad k 5 d)), (4, .int 4), (5, .int 1), (6, .ref (ad k (d + 20) 1)), (7, .int (nI (t5)))]) hc dX1_hear_43 (by decide) rfl ?_
      refine rm_aload hc dX1_hear_45 rfl ?_
      refine rm_iload_n hc dX1_hear_47 rfl rfl ?_
      refine rm_aload_n hc dX1_hear_48 rfl rfl ?_
      refine rm_geti hc dX1_hear_49 fl_X1_55 (dm_8 (by omega)) rfl rfl (fun v10 e10 => ?_)
      obtain rfl : v10 = nI mm := e10.trans hw
      refine rm_calliV (As := [.int num, .int (nI (mm))]) (rest := []) hc dX1_hear_52 (c_X5_stepsTo hI x (k := k) (d := d) (s0 := 1) (by omega) (by omega) (by omega) (by omega) num mm (by omega)) mv_X1_58 (dm_s (d := d) (by omega) (by omega) (by omega) (by omega)) rfl rfl (hn := rfl) (hst := rfl) (hw := Nat.le_of_ble_eq_true rfl) (hR := ⟨⟨rfl, rfl⟩, Nat.le_of_ble_eq_true rfl, Nat.le_of_ble_eq_true rfl⟩) (hnc := ⟨Nat.zero_le _, Nat.zero_le _⟩) (fun r11 y11 h11 => ?_)
      obtain ⟨e11, ey11⟩ := h11
      obtain rfl := ey11.symm
      have hb11 := stpS_le (x := x) (k := k) (d := d) (s := 1) (num := num) (mm := mm)
      obtain ⟨t11, ht11⟩ : ∃ t11 : Nat, stpS x k d 1 num mm = t11 := ⟨_, rfl⟩
      rw [ht11] at e11 hb11
      obtain rfl := e11
      refine rm_istore (ls' := [(0, .ref (ad k 4 d)), (1, .int num), (2, .ref (ad k2 8 0)), (3, .ref (ad k 5 d)), (4, .int 4), (5, .int 1), (6, .ref (ad k (d + 20) 1)), (7, .int (nI (t11)))]) hc dX1_hear_55 (by decide) rfl ?_
      refine rm_iload hc dX1_hear_57 rfl ?_
      rcases Nat.eq_zero_or_pos t11 with zt11 | zt11
      · --zero
        refine rm_if_le (tgt := 98) hc dX1_hear_59 (by decide) (fun _ => ?_) (fun h => absurd (by rw [zt11]; decide) h)
        refine rm_iload hc dX1_hear_98 rfl ?_
        refine rm_if_le (tgt := 115) hc dX1_hear_100 (by decide) (fun _ => ?_) (fun h => absurd (by rw [zt11]; decide) h)
        refine rm_iinc (v := 2) (ls' := [(0, .ref (ad k 4 d)), (1, .int num), (2, .ref (ad k2 8 0)), (3, .ref (ad k 5 d)), (4, .int 4), (5, .int 2), (6, .ref (ad k (d + 20) 1)), (7, .int (nI (t11)))]) hc dX1_hear_115 rfl (by decide) (by decide) rfl ?_
        refine rm_goto (tgt := 32) hc dX1_hear_118 (by decide) ?_
        refine rm_iload hc dX1_hear_32 rfl ?_
        refine rm_iload hc dX1_hear_34 rfl ?_
        refine rm_icmp_ge (tgt := 121) hc dX1_hear_36 (by decide) (fun h => absurd h (by decide)) (fun _ => ?_)
        refine rm_aload_n hc dX1_hear_39 rfl rfl ?_
        refine rm_iload hc dX1_hear_40 rfl ?_
        refine rm_aald (t0 := 3) (i := 2) (v := .ref (ad k (d + 20) 2)) hc dX1_hear_42 (dm_5 (by omega) (by omega) (by omega)) rfl rfl (by omega) (by decide) rfl rfl ?_
        refine rm_astore (ls' := [(0, .ref (ad k 4 d)), (1, .int num), (2, .ref (ad k2 8 0)), (3, .ref (ad k 5 d)), (4, .int 4), (5, .int 2), (6, .ref (ad k (d + 20) 2)), (7, .int (nI (t11)))]) hc dX1_hear_43 (by decide) rfl ?_
        refine rm_aload hc dX1_hear_45 rfl ?_
        refine rm_iload_n hc dX1_hear_47 rfl rfl ?_
        refine rm_aload_n hc dX1_hear_48 rfl rfl ?_
        refine rm_geti hc dX1_hear_49 fl_X1_55 (dm_8 (by omega)) rfl rfl (fun v16 e16 => ?_)
        obtain rfl : v16 = nI mm := e16.trans hw
        refine rm_calliV (As := [.int num, .int (nI (mm))]) (rest := []) hc dX1_hear_52 (c_X5_stepsTo hI x (k := k) (d := d) (s0 := 2) (by omega) (by omega) (by omega) (by omega) num mm (by omega)) mv_X1_58 (dm_s (d := d) (by omega) (by omega) (by omega) (by omega)) rfl rfl (hn := rfl) (hst := rfl) (hw := Nat.le_of_ble_eq_true rfl) (hR := ⟨⟨rfl, rfl⟩, Nat.le_of_ble_eq_true rfl, Nat.le_of_ble_eq_true rfl⟩) (hnc := ⟨Nat.zero_le _, Nat.zero_le _⟩) (fun r17 y17 h17 => ?_)
        obtain ⟨e17, ey17⟩ := h17
        obtain rfl := ey17.symm
        have hb17 := stpS_le (x := x) (k := k) (d := d) (s := 2) (num := num) (mm := mm)
        obtain ⟨t17, ht17⟩ : ∃ t17 : Nat, stpS x k d 2 num mm = t17 := ⟨_, rfl⟩
        rw [ht17] at e17 hb17
        obtain rfl := e17
        refine rm_istore (ls' := [(0, .ref (ad k 4 d)), (1, .int num), (2, .ref (ad k2 8 0)), (3, .ref (ad k 5 d)), (4, .int 4), (5, .int 2), (6, .ref (ad k (d + 20) 2)), (7, .int (nI (t17)))]) hc dX1_hear_55 (by decide) rfl ?_
        refine rm_iload hc dX1_hear_57 rfl ?_
        rcases Nat.eq_zero_or_pos t17 with zt17 | zt17
        · --zero
          refine rm_if_le (tgt := 98) hc dX1_hear_59 (by decide) (fun _ => ?_) (fun h => absurd (by rw [zt17]; decide) h)
          refine rm_iload hc dX1_hear_98 rfl ?_
          refine rm_if_le (tgt := 115) hc dX1_hear_100 (by decide) (fun _ => ?_) (fun h => absurd (by rw [zt17]; decide) h)
          refine rm_iinc (v := 3) (ls' := [(0, .ref (ad k 4 d)), (1, .int num), (2, .ref (ad k2 8 0)), (3, .ref (ad k 5 d)), (4, .int 4), (5, .int 3), (6, .ref (ad k (d + 20) 2)), (7, .int (nI (t17)))]) hc dX1_hear_115 rfl (by decide) (by decide) rfl ?_
          refine rm_goto (tgt := 32) hc dX1_hear_118 (by decide) ?_
          refine rm_iload hc dX1_hear_32 rfl ?_
          refine rm_iload hc dX1_hear_34 rfl ?_
          refine rm_icmp_ge (tgt := 121) hc dX1_hear_36 (by decide) (fun h => absurd h (by decide)) (fun _ => ?_)
          refine rm_aload_n hc dX1_hear_39 rfl rfl ?_
          refine rm_iload hc dX1_hear_40 rfl ?_
          refine rm_aald (t0 := 3) (i := 3) (v := .ref (ad k (d + 20) 3)) hc dX1_hear_42 (dm_5 (by omega) (by omega) (by omega)) rfl rfl (by omega) (by decide) rfl rfl ?_
          refine rm_astore (ls' := [(0, .ref (ad k 4 d)), (1, .int num), (2, .ref (ad k2 8 0)), (3, .ref (ad k 5 d)), (4, .int 4), (5, .int 3), (6, .ref (ad k (d + 20) 3)), (7, .int (nI (t17)))]) hc dX1_hear_43 (by decide) rfl ?_
          refine rm_aload hc dX1_hear_45 rfl ?_
          refine rm_iload_n hc dX1_hear_47 rfl rfl ?_
          refine rm_aload_n hc dX1_hear_48 rfl rfl ?_
          refine rm_geti hc dX1_hear_49 fl_X1_55 (dm_8 (by omega)) rfl rfl (fun v22 e22 => ?_)
          obtain rfl : v22 = nI mm := e22.trans hw
          refine rm_calliV (As := [.int num, .int (nI (mm))]) (rest := []) hc dX1_hear_52 (c_X5_stepsTo hI x (k := k) (d := d) (s0 := 3) (by omega) (by omega) (by omega) (by omega) num mm (by omega)) mv_X1_58 (dm_s (d := d) (by omega) (by omega) (by omega) (by omega)) rfl rfl (hn := rfl) (hst := rfl) (hw := Nat.le_of_ble_eq_true rfl) (hR := ⟨⟨rfl, rfl⟩, Nat.le_of_ble_eq_true rfl, Nat.le_of_ble_eq_true rfl⟩) (hnc := ⟨Nat.zero_le _, Nat.zero_le _⟩) (fun r23 y23 h23 => ?_)
          obtain ⟨e23, ey23⟩ := h23
          obtain rfl := ey23.symm
          have hb23 := stpS_le (x := x) (k := k) (d := d) (s := 3) (num := num) (mm := mm)
          obtain ⟨t23, ht23⟩ : ∃ t23 : Nat, stpS x k d 3 num mm = t23 := ⟨_, rfl⟩
          rw [ht23] at e23 hb23
          obtain rfl := e23
          refine rm_istore (ls' := [(0, .ref (ad k 4 d)), (1, .int num), (2, .ref (ad k2 8 0)), (3, .ref (ad k 5 d)), (4, .int 4), (5, .int 3), (6, .ref (ad k (d + 20) 3)), (7, .int (nI (t23)))]) hc dX1_hear_55 (by decide) rfl ?_
          refine rm_iload hc dX1_hear_57 rfl ?_
          rcases Nat.eq_zero_or_pos t23 with zt23 | zt23
          · --zero
            refine rm_if_le (tgt := 98) hc dX1_hear_59 (by decide) (fun _ => ?_) (fun h => absurd (by rw [zt23]; decide) h)
            refine rm_iload hc dX1_hear_98 rfl ?_
            refine rm_if_le (tgt := 115) hc dX1_hear_100 (by decide) (fun _ => ?_) (fun h => absurd (by rw [zt23]; decide) h)
            refine rm_iinc (v := 4) (ls' := [(0, .ref (ad k 4 d)), (1, .int num), (2, .ref (ad k2 8 0)), (3, .ref (ad k 5 d)), (4, .int 4), (5, .int 4), (6, .ref (ad k (d + 20) 3)), (7, .int (nI (t23)))]) hc dX1_hear_115 rfl (by decide) (by decide) rfl ?_
            refine rm_goto (tgt := 32) hc dX1_hear_118 (by decide) ?_
            refine rm_iload hc dX1_hear_32 rfl ?_
            refine rm_iload hc dX1_hear_34 rfl ?_
            refine rm_icmp_ge (tgt := 121) hc dX1_hear_36 (by decide) (fun _ => ?_) (fun h => absurd (by decide) h)
            refine rm_aload_n hc dX1_hear_121 rfl rfl ?_
            refine rm_dup hc dX1_hear_122 rfl ?_
            refine rm_geti hc dX1_hear_123 fl_X1_26 (dm_4 (by omega) (by omega) (by omega)) rfl rfl (fun v28 e28 => ?_)
            refine rm_iconst (v := 1) hc dX1_hear_126 (by decide) ?_
            refine rm_iadd hc dX1_hear_127 (fun v29 e29 => ?_)
            refine rm_put hc dX1_hear_128 fl_X1_26 (dm_4 (by omega) (by omega) (by omega)) rfl (Nat.le_of_ble_eq_true rfl) ft_1_2 rfl rfl (so_4_2 (by omega) (by omega)) (rm_nm (fun x30 ex30 => ?_))
            refine rm_aload_n hc dX1_hear_131 rfl rfl ?_
            refine rm_dup hc dX1_hear_132 rfl ?_
            refine rm_geti hc dX1_hear_133 fl_X1_36 (dm_4 (by omega) (by omega) (by omega)) rfl rfl (fun v31 e31 => ?_)
            refine rm_iconst (v := 1) hc dX1_hear_136 (by decide) ?_
            refine rm_iadd hc dX1_hear_137 (fun v32 e32 => ?_)
            refine rm_put hc dX1_hear_138 fl_X1_36 (dm_4 (by omega) (by omega) (by omega)) rfl (Nat.le_of_ble_eq_true rfl) ft_1_5 rfl rfl (so_4_5 (by omega) (by omega)) (rm_nm (fun x33 ex33 => ?_))
            refine rm_iconst (v := 2) hc dX1_hear_141 (by decide) ?_
            exact rm_iret hc dX1_hear_142 ⟨(hr_2 (k2 := k2) hL (mean_4 (by rw [ht5]; exact zt5) (by rw [ht11]; exact zt11) (by rw [ht17]; exact zt17) (by rw [ht23]; exact zt23))).1.symm, by rw [(hr_2 (k2 := k2) hL (mean_4 (by rw [ht5]; exact zt5) (by rw [ht11]; exact zt11) (by rw [ht17]; exact zt17) (by rw [ht23]; exact zt23))).2]; subst_vars; simp [up]⟩
          · --pos
            refine rm_if_le (tgt := 98) hc dX1_hear_59 (by decide) (fun h => absurd h (nI_nle (n := t23) (by omega) (by omega))) (fun _ => ?_)
            refine rm_aload hc dX1_hear_62 rfl ?_
            refine rm_iload hc dX1_hear_64 rfl ?_
            refine rm_aload_n hc dX1_hear_66 rfl rfl ?_
            refine rm_geti hc dX1_hear_67 fl_X1_62 (dm_8 (by omega)) rfl rfl (fun v35 e35 => ?_)
            obtain rfl : wv = v35 := (e35.trans ew.symm).symm
            refine rm_calliV (As := [.int (nI (t23)), .int wv]) (rest := []) hc dX1_hear_70 (c_X5_take hI x (k := k) (d := d) (s0 := 3) (by omega) (by omega) (by omega) (by omega) (nI (t23)) wv) mv_X1_65 (dm_s (d := d) (by omega) (by omega) (by omega) (by omega)) rfl rfl (hn := rfl) (hst := rfl) (hw := Nat.le_of_ble_eq_true rfl) (hR := ⟨⟨rfl, rfl⟩, Nat.le_of_ble_eq_true rfl, Nat.le_of_ble_eq_true rfl⟩) (hnc := ⟨Nat.zero_le _, Nat.zero_le _⟩) (fun r36 y36 h36 => ?_)
            obtain ⟨e36, ey36⟩ := h36
            by_cases hT : takS x k d 3 (nI (t23)) wv
            · --take 1
              rw [if_pos hT] at e36 ey36
              obtain rfl := e36
              refine rm_if_eq (tgt := 98) hc dX1_hear_73 (by decide) (fun h => absurd h (by decide)) (fun _ => ?_)
              refine rm_aload_n hc dX1_hear_76 rfl rfl ?_
              refine rm_iconst (v := 1) hc dX1_hear_77 (by decide) ?_
              refine rm_put hc dX1_hear_78 fl_X1_22 (dm_4 (by omega) (by omega) (by omega)) rfl (Nat.le_of_ble_eq_true rfl) ft_1_1 rfl rfl (so_4_1 (by omega) (by omega)) (rm_nm (fun x38 ex38 => ?_))
              refine rm_aload_n hc dX1_hear_81 rfl rfl ?_
              refine rm_dup hc dX1_hear_82 rfl ?_
              refine rm_geti hc dX1_hear_83 fl_X1_30 (dm_4 (by omega) (by omega) (by omega)) rfl rfl (fun v39 e39 => ?_)
              refine rm_iconst (v := 1) hc dX1_hear_86 (by decide) ?_
              refine rm_iadd hc dX1_hear_87 (fun v40 e40 => ?_)
              refine rm_put hc dX1_hear_88 fl_X1_30 (dm_4 (by omega) (by omega) (by omega)) rfl (Nat.le_of_ble_eq_true rfl) ft_1_3 rfl rfl (so_4_3 (by omega) (by omega)) (rm_nm (fun x41 ex41 => ?_))
              refine rm_aload_n hc dX1_hear_91 rfl rfl ?_
              refine rm_iconst (v := 0) hc dX1_hear_92 (by decide) ?_
              refine rm_put hc dX1_hear_93 fl_X1_26 (dm_4 (by omega) (by omega) (by omega)) rfl (Nat.le_of_ble_eq_true rfl) ft_1_2 rfl rfl (so_4_2 (by omega) (by omega)) (rm_nm (fun x42 ex42 => ?_))
              refine rm_iconst (v := 0) hc dX1_hear_96 (by decide) ?_
              exact rm_iret hc dX1_hear_97 ⟨(hr_0 (k2 := k2) hL ((mean_3 (by rw [ht5]; exact zt5) (by rw [ht11]; exact zt11) (by rw [ht17]; exact zt17) (by rw [ht23]; omega)).trans (by rw [ht23])) (by omega) (by rw [← ew]; exact hT)).1.symm, by rw [(hr_0 (k2 := k2) hL ((mean_3 (by rw [ht5]; exact zt5) (by rw [ht11]; exact zt11) (by rw [ht17]; exact zt17) (by rw [ht23]; omega)).trans (by rw [ht23])) (by omega) (by rw [← ew]; exact hT)).2]; subst_vars; simp [opnM, up]⟩
            · --take 0
              rw [if_neg hT] at e36 ey36
              obtain rfl := e36
              refine rm_if_eq (tgt := 98) hc dX1_hear_73 (by decide) (fun _ => ?_) (fun h => absurd (by decide) h)
              refine rm_iload hc dX1_hear_98 rfl ?_
              refine rm_if_le (tgt := 115) hc dX1_hear_100 (by decide) (fun h => absurd h (nI_nle (n := t23) (by omega) (by omega))) (fun _ => ?_)
              refine rm_aload_n hc dX1_hear_103 rfl rfl ?_
              refine rm_dup hc dX1_hear_104 rfl ?_
              refine rm_geti hc dX1_hear_105 fl_X1_33 (dm_4 (by omega) (by omega) (by omega)) rfl rfl (fun v45 e45 => ?_)
              refine rm_iconst (v := 1) hc dX1_hear_108 (by decide) ?_
              refine rm_iadd hc dX1_hear_109 (fun v46 e46 => ?_)
              refine rm_put hc dX1_hear_110 fl_X1_33 (dm_4 (by omega) (by omega) (by omega)) rfl (Nat.le_of_ble_eq_true rfl) ft_1_4 rfl rfl (so_4_4 (by omega) (by omega)) (rm_nm (fun x47 ex47 => ?_))
              refine rm_iconst (v := 1) hc dX1_hear_113 (by decide) ?_
              exact rm_iret hc dX1_hear_114 ⟨(hr_1 (k2 := k2) hL ((mean_3 (by rw [ht5]; exact zt5) (by rw [ht11]; exact zt11) (by rw [ht17]; exact zt17) (by rw [ht23]; omega)).trans (by rw [ht23])) (by omega) (by rw [← ew]; exact hT)).1.symm, by rw [(hr_1 (k2 := k2) hL ((mean_3 (by rw [ht5]; exact zt5) (by rw [ht11]; exact zt11) (by rw [ht17]; exact zt17) (by rw [ht23]; omega)).trans (by rw [ht23])) (by omega) (by rw [← ew]; exact hT)).2]; subst_vars; rw [tak0_33]⟩
        · --pos
          refine rm_if_le (tgt := 98) hc dX1_hear_59 (by decide) (fun h => absurd h (nI_nle (n := t17) (by omega) (by omega))) (fun _ => ?_)
          refine rm_aload hc dX1_hear_62 rfl ?_
          refine rm_iload hc dX1_hear_64 rfl ?_
          refine rm_aload_n hc dX1_hear_66 rfl rfl ?_
          refine rm_geti hc dX1_hear_67 fl_X1_62 (dm_8 (by omega)) rfl rfl (fun v49 e49 => ?_)
          obtain rfl : wv = v49 := (e49.trans ew.symm).symm
          refine rm_calliV (As := [.int (nI (t17)), .int wv]) (rest := []) hc dX1_hear_70 (c_X5_take hI x (k := k) (d := d) (s0 := 2) (by omega) (by omega) (by omega) (by omega) (nI (t17)) wv) mv_X1_65 (dm_s (d := d) (by omega) (by omega) (by omega) (by omega)) rfl rfl (hn := rfl) (hst := rfl) (hw := Nat.le_of_ble_eq_true rfl) (hR := ⟨⟨rfl, rfl⟩, Nat.le_of_ble_eq_true rfl, Nat.le_of_ble_eq_true rfl⟩) (hnc := ⟨Nat.zero_le _, Nat.zero_le _⟩) (fun r50 y50 h50 => ?_)
          obtain ⟨e50, ey50⟩ := h50
          by_cases hT : takS x k d 2 (nI (t17)) wv
          · --take 1
            rw [if_pos hT] at e50 ey50
            obtain rfl := e50
            refine rm_if_eq (tgt := 98) hc dX1_hear_73 (by decide) (fun h => absurd h (by decide)) (fun _ => ?_)
            refine rm_aload_n hc dX1_hear_76 rfl rfl ?_
            refine rm_iconst (v := 1) hc dX1_hear_77 (by decide) ?_
            refine rm_put hc dX1_hear_78 fl_X1_22 (dm_4 (by omega) (by omega) (by omega)) rfl (Nat.le_of_ble_eq_true rfl) ft_1_1 rfl rfl (so_4_1 (by omega) (by omega)) (rm_nm (fun x52 ex52 => ?_))
            refine rm_aload_n hc dX1_hear_81 rfl rfl ?_
            refine rm_dup hc dX1_hear_82 rfl ?_
            refine rm_geti hc dX1_hear_83 fl_X1_30 (dm_4 (by omega) (by omega) (by omega)) rfl rfl (fun v53 e53 => ?_)
            refine rm_iconst (v := 1) hc dX1_hear_86 (by decide) ?_
            refine rm_iadd hc dX1_hear_87 (fun v54 e54 => ?_)
            refine rm_put hc dX1_hear_88 fl_X1_30 (dm_4 (by omega) (by omega) (by omega)) rfl (Nat.le_of_ble_eq_true rfl) ft_1_3 rfl rfl (so_4_3 (by omega) (by omega)) (rm_nm (fun x55 ex55 => ?_))
            refine rm_aload_n hc dX1_hear_91 rfl rfl ?_
            refine rm_iconst (v := 0) hc dX1_hear_92 (by decide) ?_
            refine rm_put hc dX1_hear_93 fl_X1_26 (dm_4 (by omega) (by omega) (by omega)) rfl (Nat.le_of_ble_eq_true rfl) ft_1_2 rfl rfl (so_4_2 (by omega) (by omega)) (rm_nm (fun x56 ex56 => ?_))
            refine rm_iconst (v := 0) hc dX1_hear_96 (by decide) ?_
            exact rm_iret hc dX1_hear_97 ⟨(hr_0 (k2 := k2) hL ((mean_2 (by rw [ht5]; exact zt5) (by rw [ht11]; exact zt11) (by rw [ht17]; omega)).trans (by rw [ht17])) (by omega) (by rw [← ew]; exact hT)).1.symm, by rw [(hr_0 (k2 := k2) hL ((mean_2 (by rw [ht5]; exact zt5) (by rw [ht11]; exact zt11) (by rw [ht17]; omega)).trans (by rw [ht17])) (by omega) (by rw [← ew]; exact hT)).2]; subst_vars; simp [opnM, up]⟩
          · --take 0
            rw [if_neg hT] at e50 ey50
            obtain rfl := e50
            refine rm_if_eq (tgt := 98) hc dX1_hear_73 (by decide) (fun _ => ?_) (fun h => absurd (by decide) h)
            refine rm_iload hc dX1_hear_98 rfl ?_
            refine rm_if_le (tgt := 115) hc dX1_hear_100 (by decide) (fun h => absurd h (nI_nle (n := t17) (by omega) (by omega))) (fun _ => ?_)
            refine rm_aload_n hc dX1_hear_103 rfl rfl ?_
            refine rm_dup hc dX1_hear_104 rfl ?_
            refine rm_geti hc dX1_hear_105 fl_X1_33 (dm_4 (by omega) (by omega) (by omega)) rfl rfl (fun v59 e59 => ?_)
            refine rm_iconst (v := 1) hc dX1_hear_108 (by decide) ?_
            refine rm_iadd hc dX1_hear_109 (fun v60 e60 => ?_)
            refine rm_put hc dX1_hear_110 fl_X1_33 (dm_4 (by omega) (by omega) (by omega)) rfl (Nat.le_of_ble_eq_true rfl) ft_1_4 rfl rfl (so_4_4 (by omega) (by omega)) (rm_nm (fun x61 ex61 => ?_))
            refine rm_iconst (v := 1) hc dX1_hear_113 (by decide) ?_
            exact rm_iret hc dX1_hear_114 ⟨(hr_1 (k2 := k2) hL ((mean_2 (by rw [ht5]; exact zt5) (by rw [ht11]; exact zt11) (by rw [ht17]; omega)).trans (by rw [ht17])) (by omega) (by rw [← ew]; exact hT)).1.symm, by rw [(hr_1 (k2 := k2) hL ((mean_2 (by rw [ht5]; exact zt5) (by rw [ht11]; exact zt11) (by rw [ht17]; omega)).trans (by rw [ht17])) (by omega) (by rw [← ew]; exact hT)).2]; subst_vars; rw [tak0_33]⟩
      · --pos
        refine rm_if_le (tgt := 98) hc dX1_hear_59 (by decide) (fun h => absurd h (nI_nle (n := t11) (by omega) (by omega))) (fun _ => ?_)
        refine rm_aload hc dX1_hear_62 rfl ?_
        refine rm_iload hc dX1_hear_64 rfl ?_
        refine rm_aload_n hc dX1_hear_66 rfl rfl ?_
        refine rm_geti hc dX1_hear_67 fl_X1_62 (dm_8 (by omega)) rfl rfl (fun v63 e63 => ?_)
        obtain rfl : wv = v63 := (e63.trans ew.symm).symm
        refine rm_calliV (As := [.int (nI (t11)), .int wv]) (rest := []) hc dX1_hear_70 (c_X5_take hI x (k := k) (d := d) (s0 := 1) (by omega) (by omega) (by omega) (by omega) (nI (t11)) wv) mv_X1_65 (dm_s (d := d) (by omega) (by omega) (by omega) (by omega)) rfl rfl (hn := rfl) (hst := rfl) (hw := Nat.le_of_ble_eq_true rfl) (hR := ⟨⟨rfl, rfl⟩, Nat.le_of_ble_eq_true rfl, Nat.le_of_ble_eq_true rfl⟩) (hnc := ⟨Nat.zero_le _, Nat.zero_le _⟩) (fun r64 y64 h64 => ?_)
        obtain ⟨e64, ey64⟩ := h64
        by_cases hT : takS x k d 1 (nI (t11)) wv
        · --take 1
          rw [if_pos hT] at e64 ey64
          obtain rfl := e64
          refine rm_if_eq (tgt := 98) hc dX1_hear_73 (by decide) (fun h => absurd h (by decide)) (fun _ => ?_)
          refine rm_aload_n hc dX1_hear_76 rfl rfl ?_
          refine rm_iconst (v := 1) hc dX1_hear_77 (by decide) ?_
          refine rm_put hc dX1_hear_78 fl_X1_22 (dm_4 (by omega) (by omega) (by omega)) rfl (Nat.le_of_ble_eq_true rfl) ft_1_1 rfl rfl (so_4_1 (by omega) (by omega)) (rm_nm (fun x66 ex66 => ?_))
          refine rm_aload_n hc dX1_hear_81 rfl rfl ?_
          refine rm_dup hc dX1_hear_82 rfl ?_
          refine rm_geti hc dX1_hear_83 fl_X1_30 (dm_4 (by omega) (by omega) (by omega)) rfl rfl (fun v67 e67 => ?_)
          refine rm_iconst (v := 1) hc dX1_hear_86 (by decide) ?_
          refine rm_iadd hc dX1_hear_87 (fun v68 e68 => ?_)
          refine rm_put hc dX1_hear_88 fl_X1_30 (dm_4 (by omega) (by omega) (by omega)) rfl (Nat.le_of_ble_eq_true rfl) ft_1_3 rfl rfl (so_4_3 (by omega) (by omega)) (rm_nm (fun x69 ex69 => ?_))
          refine rm_aload_n hc dX1_hear_91 rfl rfl ?_
          refine rm_iconst (v := 0) hc dX1_hear_92 (by decide) ?_
          refine rm_put hc dX1_hear_93 fl_X1_26 (dm_4 (by omega) (by omega) (by omega)) rfl (Nat.le_of_ble_eq_true rfl) ft_1_2 rfl rfl (so_4_2 (by omega) (by omega)) (rm_nm (fun x70 ex70 => ?_))
          refine rm_iconst (v := 0) hc dX1_hear_96 (by decide) ?_
          exact rm_iret hc dX1_hear_97 ⟨(hr_0 (k2 := k2) hL ((mean_1 (by rw [ht5]; exact zt5) (by rw [ht11]; omega)).trans (by rw [ht11])) (by omega) (by rw [← ew]; exact hT)).1.symm, by rw [(hr_0 (k2 := k2) hL ((mean_1 (by rw [ht5]; exact zt5) (by rw [ht11]; omega)).trans (by rw [ht11])) (by omega) (by rw [← ew]; exact hT)).2]; subst_vars; simp [opnM, up]⟩
        · --take 0
          rw [if_neg hT] at e64 ey64
          obtain rfl := e64
          refine rm_if_eq (tgt := 98) hc dX1_hear_73 (by decide) (fun _ => ?_) (fun h => absurd (by decide) h)
          refine rm_iload hc dX1_hear_98 rfl ?_
          refine rm_if_le (tgt := 115) hc dX1_hear_100 (by decide) (fun h => absurd h (nI_nle (n := t11) (by omega) (by omega))) (fun _ => ?_)
          refine rm_aload_n hc dX1_hear_103 rfl rfl ?_
          refine rm_dup hc dX1_hear_104 rfl ?_
          refine rm_geti hc dX1_hear_105 fl_X1_33 (dm_4 (by omega) (by omega) (by omega)) rfl rfl (fun v73 e73 => ?_)
          refine rm_iconst (v := 1) hc dX1_hear_108 (by decide) ?_
          refine rm_iadd hc dX1_hear_109 (fun v74 e74 => ?_)
          refine rm_put hc dX1_hear_110 fl_X1_33 (dm_4 (by omega) (by omega) (by omega)) rfl (Nat.le_of_ble_eq_true rfl) ft_1_4 rfl rfl (so_4_4 (by omega) (by omega)) (rm_nm (fun x75 ex75 => ?_))
          refine rm_iconst (v := 1) hc dX1_hear_113 (by decide) ?_
          exact rm_iret hc dX1_hear_114 ⟨(hr_1 (k2 := k2) hL ((mean_1 (by rw [ht5]; exact zt5) (by rw [ht11]; omega)).trans (by rw [ht11])) (by omega) (by rw [← ew]; exact hT)).1.symm, by rw [(hr_1 (k2 := k2) hL ((mean_1 (by rw [ht5]; exact zt5) (by rw [ht11]; omega)).trans (by rw [ht11])) (by omega) (by rw [← ew]; exact hT)).2]; subst_vars; rw [tak0_33]⟩
    · --pos
      refine rm_if_le (tgt := 98) hc dX1_hear_59 (by decide) (fun h => absurd h (nI_nle (n := t5) (by omega) (by omega))) (fun _ => ?_)
      refine rm_aload hc dX1_hear_62 rfl ?_
      refine rm_iload hc dX1_hear_64 rfl ?_
      refine rm_aload_n hc dX1_hear_66 rfl rfl ?_
      refine rm_geti hc dX1_hear_67 fl_X1_62 (dm_8 (by omega)) rfl rfl (fun v77 e77 => ?_)
      obtain rfl : wv = v77 := (e77.trans ew.symm).symm
      refine rm_calliV (As := [.int (nI (t5)), .int wv]) (rest := []) hc dX1_hear_70 (c_X5_take hI x (k := k) (d := d) (s0 := 0) (by omega) (by omega) (by omega) (by omega) (nI (t5)) wv) mv_X1_65 (dm_s (d := d) (by omega) (by omega) (by omega) (by omega)) rfl rfl (hn := rfl) (hst := rfl) (hw := Nat.le_of_ble_eq_true rfl) (hR := ⟨⟨rfl, rfl⟩, Nat.le_of_ble_eq_true rfl, Nat.le_of_ble_eq_true rfl⟩) (hnc := ⟨Nat.zero_le _, Nat.zero_le _⟩) (fun r78 y78 h78 => ?_)
      obtain ⟨e78, ey78⟩ := h78
      by_cases hT : takS x k d 0 (nI (t5)) wv
      · --take 1
        rw [if_pos hT] at e78 ey78
        obtain rfl := e78
        refine rm_if_eq (tgt := 98) hc dX1_hear_73 (by decide) (fun h => absurd h (by decide)) (fun _ => ?_)
        refine rm_aload_n hc dX1_hear_76 rfl rfl ?_
        refine rm_iconst (v := 1) hc dX1_hear_77 (by decide) ?_
        refine rm_put hc dX1_hear_78 fl_X1_22 (dm_4 (by omega) (by omega) (by omega)) rfl (Nat.le_of_ble_eq_true rfl) ft_1_1 rfl rfl (so_4_1 (by omega) (by omega)) (rm_nm (fun x80 ex80 => ?_))
        refine rm_aload_n hc dX1_hear_81 rfl rfl ?_
        refine rm_dup hc dX1_hear_82 rfl ?_
        refine rm_geti hc dX1_hear_83 fl_X1_30 (dm_4 (by omega) (by omega) (by omega)) rfl rfl (fun v81 e81 => ?_)
        refine rm_iconst (v := 1) hc dX1_hear_86 (by decide) ?_
        refine rm_iadd hc dX1_hear_87 (fun v82 e82 => ?_)
        refine rm_put hc dX1_hear_88 fl_X1_30 (dm_4 (by omega) (by omega) (by omega)) rfl (Nat.le_of_ble_eq_true rfl) ft_1_3 rfl rfl (so_4_3 (by omega) (by omega)) (rm_nm (fun x83 ex83 => ?_))
        refine rm_aload_n hc dX1_hear_91 rfl rfl ?_
        refine rm_iconst (v := 0) hc dX1_hear_92 (by decide) ?_
        refine rm_put hc dX1_hear_93 fl_X1_26 (dm_4 (by omega) (by omega) (by omega)) rfl (Nat.le_of_ble_eq_true rfl) ft_1_2 rfl rfl (so_4_2 (by omega) (by omega)) (rm_nm (fun x84 ex84 => ?_))
        refine rm_iconst (v := 0) hc dX1_hear_96 (by decide) ?_
        exact rm_iret hc dX1_hear_97 ⟨(hr_0 (k2 := k2) hL ((mean_0  (by rw [ht5]; omega)).trans (by rw [ht5])) (by omega) (by rw [← ew]; exact hT)).1.symm, by rw [(hr_0 (k2 := k2) hL ((mean_0  (by rw [ht5]; omega)).trans (by rw [ht5])) (by omega) (by rw [← ew]; exact hT)).2]; subst_vars; simp [opnM, up]⟩
      · --take 0
        rw [if_neg hT] at e78 ey78
        obtain rfl := e78
        refine rm_if_eq (tgt := 98) hc dX1_hear_73 (by decide) (fun _ => ?_) (fun h => absurd (by decide) h)
        refine rm_iload hc dX1_hear_98 rfl ?_
        refine rm_if_le (tgt := 115) hc dX1_hear_100 (by decide) (fun h => absurd h (nI_nle (n := t5) (by omega) (by omega))) (fun _ => ?_)
        refine rm_aload_n hc dX1_hear_103 rfl rfl ?_
        refine rm_dup hc dX1_hear_104 rfl ?_
        refine rm_geti hc dX1_hear_105 fl_X1_33 (dm_4 (by omega) (by omega) (by omega)) rfl rfl (fun v87 e87 => ?_)
        refine rm_iconst (v := 1) hc dX1_hear_108 (by decide) ?_
        refine rm_iadd hc dX1_hear_109 (fun v88 e88 => ?_)
        refine rm_put hc dX1_hear_110 fl_X1_33 (dm_4 (by omega) (by omega) (by omega)) rfl (Nat.le_of_ble_eq_true rfl) ft_1_4 rfl rfl (so_4_4 (by omega) (by omega)) (rm_nm (fun x89 ex89 => ?_))
        refine rm_iconst (v := 1) hc dX1_hear_113 (by decide) ?_
        exact rm_iret hc dX1_hear_114 ⟨(hr_1 (k2 := k2) hL ((mean_0  (by rw [ht5]; omega)).trans (by rw [ht5])) (by omega) (by rw [← ew]; exact hT)).1.symm, by rw [(hr_1 (k2 := k2) hL ((mean_0  (by rw [ht5]; omega)).trans (by rw [ht5])) (by omega) (by rw [← ew]; exact hT)).2]; subst_vars; rw [tak0_33]⟩
  · --locked
    refine rm_aload_n hc dX1_hear_8 rfl rfl ?_
    refine rm_dup hc dX1_hear_9 rfl ?_
    refine rm_geti hc dX1_hear_10 fl_X1_39 (dm_4 (by omega) (by omega) (by omega)) rfl rfl (fun v90 e90 => ?_)
    refine rm_iconst (v := 1) hc dX1_hear_13 (by decide) ?_
    refine rm_iadd hc dX1_hear_14 (fun v91 e91 => ?_)
    refine rm_put hc dX1_hear_15 fl_X1_39 (dm_4 (by omega) (by omega) (by omega)) rfl (Nat.le_of_ble_eq_true rfl) ft_1_6 rfl rfl (so_4_6 (by omega) (by omega)) (rm_nm (fun x92 ex92 => ?_))
    refine rm_iconst (v := 3) hc dX1_hear_18 (by decide) ?_
    exact rm_iret hc dX1_hear_19 ⟨by subst_vars; exact (hr_3 (by assumption)).1.symm, by subst_vars; exact (hr_3 (by assumption)).2.symm⟩

abbrev rm_X6_copyFrom : Room := { frames := 2, cells := 0, slots := 0, locals := 61 }
set_option maxHeartbeats 4000000 in
set_option maxRecDepth 100000 in
theorem c_X6_copyFrom {l : Launch} {D : va_G} {cy : Nat → ClassId} {ad : Ads} (hI : IJ ad) (x : Mem) {k k2 : Nat} (hk : k < 7) (hk2 : k2 < 7) (hkk : k2 ≠ k) (hF : FLG x k2) : Ctv l yX6_copyFrom cX6_copyFrom 3 none rm_X6_copyFrom D cy ad [.ref (ad k 0 0), .ref (ad k2 0 0)] x (fun y => y = cpS x k 0 k2 0 96) := by
  refine rm_entry (Qc := Qv D cy ad (fun y => y = cpS x k 0 k2 0 96)) hI (by decide) (Nat.le_of_ble_eq_true rfl) ?_
  intro p e s m args below meth c hc
  show RM _ _ _ _ _ _ _ _ _ _ _ _ _ _ _ _ _ [(0, .ref (ad k 0 0)), (1, .ref (ad k2 0 0))] []
  refine rm_iconst (v := 0) hc dX6_copyFrom_0 (by decide) ?_
  refine rm_istore_n (ls' := [(0, .ref (ad k 0 0)), (1, .ref (ad k2 0 0)), (2, .int 0)]) hc dX6_copyFrom_1 rfl (by decide) rfl ?_
  refine rm_iload_n hc dX6_copyFrom_2 rfl rfl ?_
  refine rm_iconst (v := 4) hc dX6_copyFrom_3 (by decide) ?_
  refine rm_icmp_ge (tgt := 28) hc dX6_copyFrom_4 (by decide) (fun h => absurd h (by decide)) (fun _ => ?_)
  refine rm_aload_n hc dX6_copyFrom_7 rfl rfl ?_
  refine rm_get hc dX6_copyFrom_8 fl_X6_11 (dm_0 (by omega)) rfl rfl ?_
  refine rm_iload_n hc dX6_copyFrom_11 rfl rfl ?_
  refine rm_aald (t0 := 1) (i := 0) (v := .ref (ad k 2 0)) hc dX6_copyFrom_12 (dm_1 (by omega)) rfl rfl (by omega) (by decide) rfl rfl ?_
  refine rm_aload_n hc dX6_copyFrom_13 rfl rfl ?_
  refine rm_get hc dX6_copyFrom_14 fl_X6_11 (dm_0 (by omega)) rfl rfl ?_
  refine rm_iload_n hc dX6_copyFrom_17 rfl rfl ?_
  refine rm_aald (t0 := 1) (i := 0) (v := .ref (ad k2 2 0)) hc dX6_copyFrom_18 (dm_1 (by omega)) rfl rfl (by omega) (by decide) rfl rfl ?_
  refine rm_callvV (As := [.ref (ad k2 2 0)]) (rest := []) hc dX6_copyFrom_19 (c_X2_copyFrom hI x (k := k) (j := 0) (k2 := k2) (by omega) (by omega) (by omega) hkk) mv_X6_41 (dm_2 (by omega) (by omega)) rfl rfl (hn := rfl) (hst := rfl) (hw := Nat.le_of_ble_eq_true rfl) (hR := ⟨⟨rfl, rfl⟩, Nat.le_of_ble_eq_true rfl, Nat.le_of_ble_eq_true rfl⟩) (hnc := ⟨Nat.zero_le _, Nat.zero_le _⟩) (fun y2 h2 => ?_)
  refine rm_iinc (v := 1) (ls' := [(0, .ref (ad k 0 0)), (1, .ref (ad k2 0 0)), (2, .int 1)]) hc dX6_copyFrom_22 rfl (by decide) (by decide) rfl ?_
  refine rm_goto (tgt := 2) hc dX6_copyFrom_25 (by decide) ?_
  refine rm_iload_n hc dX6_copyFrom_2 rfl rfl ?_
  refine rm_iconst (v := 4) hc dX6_copyFrom_3 (by decide) ?_
  refine rm_icmp_ge (tgt := 28) hc dX6_copyFrom_4 (by decide) (fun h => absurd h (by decide)) (fun _ => ?_)
  refine rm_aload_n hc dX6_copyFrom_7 rfl rfl ?_
  refine rm_get hc dX6_copyFrom_8 fl_X6_11 (dm_0 (by omega)) rfl rfl ?_
  refine rm_iload_n hc dX6_copyFrom_11 rfl rfl ?_
  refine rm_aald (t0 := 1) (i := 1) (v := .ref (ad k 2 1)) hc dX6_copyFrom_12 (dm_1 (by omega)) rfl rfl (by omega) (by decide) rfl rfl ?_
  refine rm_aload_n hc dX6_copyFrom_13 rfl rfl ?_
  refine rm_get hc dX6_copyFrom_14 fl_X6_11 (dm_0 (by omega)) rfl rfl ?_
  refine rm_iload_n hc dX6_copyFrom_17 rfl rfl ?_
  refine rm_aald (t0 := 1) (i := 1) (v := .ref (ad k2 2 1)) hc dX6_copyFrom_18 (dm_1 (by omega)) rfl rfl (by omega) (by decide) rfl rfl ?_
  refine rm_callvV (As := [.ref (ad k2 2 1)]) (rest := []) hc dX6_copyFrom_19 (c_X2_copyFrom hI y2 (k := k) (j := 1) (k2 := k2) (by omega) (by omega) (by omega) hkk) mv_X6_41 (dm_2 (by omega) (by omega)) rfl rfl (hn := rfl) (hst := rfl) (hw := Nat.le_of_ble_eq_true rfl) (hR := ⟨⟨rfl, rfl⟩, Nat.le_of_ble_eq_true rfl, Nat.le_of_ble_eq_true rfl⟩) (hnc := ⟨Nat.zero_le _, Nat.zero_le _⟩) (fun y4 h4 => ?_)
  refine rm_iinc (v := 2) (ls' := [(0, .ref (ad k 0 0)), (1, .ref (ad k2 0 0)), (2, .int 2)]) hc dX6_copyFrom_22 rfl (by decide) (by decide) rfl ?_
  refine rm_goto (tgt := 2) hc dX6_copyFrom_25 (by decide) ?_
  refine rm_iload_n hc dX6_copyFrom_2 rfl rfl ?_
  refine rm_iconst (v := 4) hc dX6_copyFrom_3 (by decide) ?_
  refine rm_icmp_ge (tgt := 28) hc dX6_copyFrom_4 (by decide) (fun h => absurd h (by decide)) (fun _ => ?_)
  refine rm_aload_n hc dX6_copyFrom_7 rfl rfl ?_
  refine rm_get hc dX6_copyFrom_8 fl_X6_11 (dm_0 (by omega)) rfl rfl ?_
  refine rm_iload_n hc dX6_copyFrom_11 rfl rfl ?_
  refine rm_aald (t0 := 1) (i := 2) (v := .ref (ad k 2 2)) hc dX6_copyFrom_12 (dm_1 (by omega)) rfl rfl (by omega) (by decide) rfl rfl ?_
  refine rm_aload_n hc dX6_copyFrom_13 rfl rfl ?_
  refine rm_get hc dX6_copyFrom_14 fl_X6_11 (dm_0 (by omega)) rfl rfl ?_
  refine rm_iload_n hc dX6_copyFrom_17 rfl rfl ?_
  refine rm_aald (t0 := 1) (i := 2) (v := .ref (ad k2 2 2)) hc dX6_copyFrom_18 (dm_1 (by omega)) rfl rfl (by omega) (by decide) rfl rfl ?_
  refine rm_callvV (As := [.ref (ad k2 2 2)]) (rest := []) hc dX6_copyFrom_19 (c_X2_copyFrom hI y4 (k := k) (j := 2) (k2 := k2) (by omega) (by omega) (by omega) hkk) mv_X6_41 (dm_2 (by omega) (by omega)) rfl rfl (hn := rfl) (hst := rfl) (hw := Nat.le_of_ble_eq_true rfl) (hR := ⟨⟨rfl, rfl⟩, Nat.le_of_ble_eq_true rfl, Nat.le_of_ble_eq_true rfl⟩) (hnc := ⟨Nat.zero_le _, Nat.zero_le _⟩) (fun y6 h6 => ?_)
  refine rm_iinc (v := 3) (ls' := [(0, .ref (ad k 0 0)), (1, .ref (ad k2 0 0)), (2, .int 3)]) hc dX6_copyFrom_22 rfl (by decide) (by decide) rfl ?_
  refine rm_goto (tgt := 2) hc dX6_copyFrom_25 (by decide) ?_
  refine rm_iload_n hc dX6_copyFrom_2 rfl rfl ?_
  refine rm_iconst (v := 4) hc dX6_copyFrom_3 (by decide) ?_
  refine rm_icmp_ge (tgt := 28) hc dX6_copyFrom_4 (by decide) (fun h => absurd h (by decide)) (fun _ => ?_)
  refine rm_aload_n hc dX6_copyFrom_7 rfl rfl ?_
  refine rm_get hc dX6_copyFrom_8 fl_X6_11 (dm_0 (by omega)) rfl rfl ?_
  refine rm_iload_n hc dX6_copyFrom_11 rfl rfl ?_
  refine rm_aald (t0 := 1) (i := 3) (v := .ref (ad k 2 3)) hc dX6_copyFrom_12 (dm_1 (by omega)) rfl rfl (by omega) (by decide) rfl rfl ?_
  refine rm_aload_n hc dX6_copyFrom_13 rfl rfl ?_
  refine rm_get hc dX6_copyFrom_14 fl_X6_11 (dm_0 (by omega)) rfl rfl ?_
  refine rm_iload_n hc dX6_copyFrom_17 rfl rfl ?_
  refine rm_aald (t0 := 1) (i := 3) (v := .ref (ad k2 2 3)) hc dX6_copyFrom_18 (dm_1 (by omega)) rfl rfl (by omega) (by decide) rfl rfl ?_
  refine rm_callvV (As := [.ref (ad k2 2 3)]) (rest := []) hc dX6_copyFrom_19 (c_X2_copyFrom hI y6 (k := k) (j := 3) (k2 := k2) (by omega) (by omega) (by omega) hkk) mv_X6_41 (dm_2 (by omega) (by omega)) rfl rfl (hn := rfl) (hst := rfl) (hw := Nat.le_of_ble_eq_true rfl) (hR := ⟨⟨rfl, rfl⟩, Nat.le_of_ble_eq_true rfl, Nat.le_of_ble_eq_true rfl⟩) (hnc := ⟨Nat.zero_le _, Nat.zero_le _⟩) (fun y8 h8 => ?_)
  refine rm_iinc (v := 4) (ls' := [(0, .ref (ad k 0 0)), (1, .ref (ad k2 0 0)), (2, .int 4)]) hc dX6_copyFrom_22 rfl (by decide) (by decide) rfl ?_
  refine rm_goto (tgt := 2) hc dX6_copyFrom_25 (by decide) ?_
  refine rm_iload_n hc dX6_copyFrom_2 rfl rfl ?_
  refine rm_iconst (v := 4) hc dX6_copyFrom_3 (by decide) ?_
  refine rm_icmp_ge (tgt := 28) hc dX6_copyFrom_4 (by decide) (fun _ => ?_) (fun h => absurd (by decide) h)
  refine rm_iconst (v := 0) hc dX6_copyFrom_28 (by decide) ?_
  refine rm_istore_n (ls' := [(0, .ref (ad k 0 0)), (1, .ref (ad k2 0 0)), (2, .int 0)]) hc dX6_copyFrom_29 rfl (by decide) rfl ?_
  refine rm_iload_n hc dX6_copyFrom_30 rfl rfl ?_
  refine rm_iconst (v := 3) hc dX6_copyFrom_31 (by decide) ?_
  refine rm_icmp_ge (tgt := 56) hc dX6_copyFrom_32 (by decide) (fun h => absurd h (by decide)) (fun _ => ?_)
  refine rm_aload_n hc dX6_copyFrom_35 rfl rfl ?_
  refine rm_get hc dX6_copyFrom_36 fl_X6_22 (dm_0 (by omega)) rfl rfl ?_
  refine rm_iload_n hc dX6_copyFrom_39 rfl rfl ?_
  refine rm_aald (t0 := 2) (i := 0) (v := .ref (ad k 4 0)) hc dX6_copyFrom_40 (dm_3 (by omega)) rfl rfl (by omega) (by decide) rfl rfl ?_
  refine rm_aload_n hc dX6_copyFrom_41 rfl rfl ?_
  refine rm_get hc dX6_copyFrom_42 fl_X6_22 (dm_0 (by omega)) rfl rfl ?_
  refine rm_iload_n hc dX6_copyFrom_45 rfl rfl ?_
  refine rm_aald (t0 := 2) (i := 0) (v := .ref (ad k2 4 0)) hc dX6_copyFrom_46 (dm_3 (by omega)) rfl rfl (by omega) (by decide) rfl rfl ?_
  refine rm_callvV (As := [.ref (ad k2 4 0)]) (rest := []) hc dX6_copyFrom_47 (c_X1_copyFrom hI y8 (k := k) (d := 0) (k2 := k2) (d2 := 0) (by omega) (by omega) (by omega) (by omega) (by omega) (by omega) hkk (fun q hq => by subst_vars; first | exact (hF 0 (by omega)).2 q hq | (simp only [cpS_b hkk]; exact (hF 0 (by omega)).2 q hq)) (by subst_vars; first | exact (hF 0 (by omega)).1 | (simp only [cpS_b hkk]; exact (hF 0 (by omega)).1))) mv_X6_45 (dm_4 (by omega) (by omega) (by omega)) rfl rfl (hn := rfl) (hst := rfl) (hw := Nat.le_of_ble_eq_true rfl) (hR := ⟨⟨rfl, rfl⟩, Nat.le_of_ble_eq_true rfl, Nat.le_of_ble_eq_true rfl⟩) (hnc := ⟨Nat.zero_le _, Nat.zero_le _⟩) (fun y11 h11 => ?_)
  refine rm_iinc (v := 1) (ls' := [(0, .ref (ad k 0 0)), (1, .ref (ad k2 0 0)), (2, .int 1)]) hc dX6_copyFrom_50 rfl (by decide) (by decide) rfl ?_
  refine rm_goto (tgt := 30) hc dX6_copyFrom_53 (by decide) ?_
  refine rm_iload_n hc dX6_copyFrom_30 rfl rfl ?_
  refine rm_iconst (v := 3) hc dX6_copyFrom_31 (by decide) ?_
  refine rm_icmp_ge (tgt := 56) hc dX6_copyFrom_32 (by decide) (fun h => absurd h (by decide)) (fun _ => ?_)
  refine rm_aload_n hc dX6_copyFrom_35 rfl rfl ?_
  refine rm_get hc dX6_copyFrom_36 fl_X6_22 (dm_0 (by omega)) rfl rfl ?_
  refine rm_iload_n hc dX6_copyFrom_39 rfl rfl ?_
  refine rm_aald (t0 := 2) (i := 1) (v := .ref (ad k 4 1)) hc dX6_copyFrom_40 (dm_3 (by omega)) rfl rfl (by omega) (by decide) rfl rfl ?_
  refine rm_aload_n hc dX6_copyFrom_41 rfl rfl ?_
  refine rm_get hc dX6_copyFrom_42 fl_X6_22 (dm_0 (by omega)) rfl rfl ?_
  refine rm_iload_n hc dX6_copyFrom_45 rfl rfl ?_
  refine rm_aald (t0 := 2) (i := 1) (v := .ref (ad k2 4 1)) hc dX6_copyFrom_46 (dm_3 (by omega)) rfl rfl (by omega) (by decide) rfl rfl ?_
  refine rm_callvV (As := [.ref (ad k2 4 1)]) (rest := []) hc dX6_copyFrom_47 (c_X1_copyFrom hI y11 (k := k) (d := 1) (k2 := k2) (d2 := 1) (by omega) (by omega) (by omega) (by omega) (by omega) (by omega) hkk (fun q hq => by subst_vars; first | exact (hF 1 (by omega)).2 q hq | (simp only [cpS_b hkk]; exact (hF 1 (by omega)).2 q hq)) (by subst_vars; first | exact (hF 1 (by omega)).1 | (simp only [cpS_b hkk]; exact (hF 1 (by omega)).1))) mv_X6_45 (dm_4 (by omega) (by omega) (by omega)) rfl rfl (hn := rfl) (hst := rfl) (hw := Nat.le_of_ble_eq_true rfl) (hR := ⟨⟨rfl, rfl⟩, Nat.le_of_ble_eq_true rfl, Nat.le_of_ble_eq_true rfl⟩) (hnc := ⟨Nat.zero_le _, Nat.zero_le _⟩) (fun y13 h13 => ?_)
  refine rm_iinc (v := 2) (ls' := [(0, .ref (ad k 0 0)), (1, .ref (ad k2 0 0)), (2, .int 2)]) hc dX6_copyFrom_50 rfl (by decide) (by decide) rfl ?_
  refine rm_goto (tgt := 30) hc dX6_copyFrom_53 (by decide) ?_
  refine rm_iload_n hc dX6_copyFrom_30 rfl rfl ?_
  refine rm_iconst (v := 3) hc dX6_copyFrom_31 (by decide) ?_
  refine rm_icmp_ge (tgt := 56) hc dX6_copyFrom_32 (by decide) (fun h => absurd h (by decide)) (fun _ => ?_)
  refine rm_aload_n hc dX6_copyFrom_35 rfl rfl ?_
  refine rm_get hc dX6_copyFrom_36 fl_X6_22 (dm_0 (by omega)) rfl rfl ?_
  refine rm_iload_n hc dX6_copyFrom_39 rfl rfl ?_
  refine rm_aald (t0 := 2) (i := 2) (v := .ref (ad k 4 2)) hc dX6_copyFrom_40 (dm_3 (by omega)) rfl rfl (by omega) (by decide) rfl rfl ?_
  refine rm_aload_n hc dX6_copyFrom_41 rfl rfl ?_
  refine rm_get hc dX6_copyFrom_42 fl_X6_22 (dm_0 (by omega)) rfl rfl ?_
  refine rm_iload_n hc dX6_copyFrom_45 rfl rfl ?_
  refine rm_aald (t0 := 2) (i := 2) (v := .ref (ad k2 4 2)) hc dX6_copyFrom_46 (dm_3 (by omega)) rfl rfl (by omega) (by decide) rfl rfl ?_
  refine rm_callvV (As := [.ref (ad k2 4 2)]) (rest := []) hc dX6_copyFrom_47 (c_X1_copyFrom hI y13 (k := k) (d := 2) (k2 := k2) (d2 := 2) (by omega) (by omega) (by omega) (by omega) (by omega) (by omega) hkk (fun q hq => by subst_vars; first | exact (hF 2 (by omega)).2 q hq | (simp only [cpS_b hkk]; exact (hF 2 (by omega)).2 q hq)) (by subst_vars; first | exact (hF 2 (by omega)).1 | (simp only [cpS_b hkk]; exact (hF 2 (by omega)).1))) mv_X6_45 (dm_4 (by omega) (by omega) (by omega)) rfl rfl (hn := rfl) (hst := rfl) (hw := Nat.le_of_ble_eq_true rfl) (hR := ⟨⟨rfl, rfl⟩, Nat.le_of_ble_eq_true rfl, Nat.le_of_ble_eq_true rfl⟩) (hnc := ⟨Nat.zero_le _, Nat.zero_le _⟩) (fun y15 h15 => ?_)
  refine rm_iinc (v := 3) (ls' := [(0, .ref (ad k 0 0)), (1, .ref (ad k2 0 0)), (2, .int 3)]) hc dX6_copyFrom_50 rfl (by decide) (by decide) rfl ?_
  refine rm_goto (tgt := 30) hc dX6_copyFrom_53 (by decide) ?_
  refine rm_iload_n hc dX6_copyFrom_30 rfl rfl ?_
  refine rm_iconst (v := 3) hc dX6_copyFrom_31 (by decide) ?_
  refine rm_icmp_ge (tgt := 56) hc dX6_copyFrom_32 (by decide) (fun _ => ?_) (fun h => absurd (by decide) h)
  refine rm_aload_n hc dX6_copyFrom_56 rfl rfl ?_
  refine rm_get hc dX6_copyFrom_57 fl_X6_30 (dm_0 (by omega)) rfl rfl ?_
  refine rm_aload_n hc dX6_copyFrom_60 rfl rfl ?_
  refine rm_get hc dX6_copyFrom_61 fl_X6_30 (dm_0 (by omega)) rfl rfl ?_
  refine rm_callvV (As := [.ref (ad k2 6 0)]) (rest := []) hc dX6_copyFrom_64 (c_X0_copyFrom hI y15 (k := k) (k2 := k2) (by omega) (by omega) hkk) mv_X6_48 (dm_6 (by omega)) rfl rfl (hn := rfl) (hst := rfl) (hw := Nat.le_of_ble_eq_true rfl) (hR := ⟨⟨rfl, rfl⟩, Nat.le_of_ble_eq_true rfl, Nat.le_of_ble_eq_true rfl⟩) (hnc := ⟨Nat.zero_le _, Nat.zero_le _⟩) (fun y17 h17 => ?_)
  refine rm_aload_n hc dX6_copyFrom_67 rfl rfl ?_
  refine rm_get hc dX6_copyFrom_68 fl_X6_37 (dm_0 (by omega)) rfl rfl ?_
  refine rm_aload_n hc dX6_copyFrom_71 rfl rfl ?_
  refine rm_get hc dX6_copyFrom_72 fl_X6_37 (dm_0 (by omega)) rfl rfl ?_
  refine rm_callvV (As := [.ref (ad k2 8 0)]) (rest := []) hc dX6_copyFrom_75 (c_X4_copyFrom hI y17 (k := k) (k2 := k2) (by omega) (by omega) hkk) mv_X6_51 (dm_8 (by omega)) rfl rfl (hn := rfl) (hst := rfl) (hw := Nat.le_of_ble_eq_true rfl) (hR := ⟨⟨rfl, rfl⟩, Nat.le_of_ble_eq_true rfl, Nat.le_of_ble_eq_true rfl⟩) (hnc := ⟨Nat.zero_le _, Nat.zero_le _⟩) (fun y18 h18 => ?_)
  refine rm_aload_n hc dX6_copyFrom_78 rfl rfl ?_
  refine rm_aload_n hc dX6_copyFrom_79 rfl rfl ?_
  refine rm_geti hc dX6_copyFrom_80 fl_X6_54 (dm_0 (by omega)) rfl rfl (fun v19 e19 => ?_)
  refine rm_put hc dX6_copyFrom_83 fl_X6_54 (dm_0 (by omega)) rfl (Nat.le_of_ble_eq_true rfl) ft_6_4 rfl rfl (so_0_4 (by omega)) (rm_nm (fun x20 ex20 => ?_))
  refine rm_aload_n hc dX6_copyFrom_86 rfl rfl ?_
  refine rm_aload_n hc dX6_copyFrom_87 rfl rfl ?_
  refine rm_geti hc dX6_copyFrom_88 fl_X6_58 (dm_0 (by omega)) rfl rfl (fun v21 e21 => ?_)
  refine rm_put hc dX6_copyFrom_91 fl_X6_58 (dm_0 (by omega)) rfl (Nat.le_of_ble_eq_true rfl) ft_6_5 rfl rfl (so_0_5 (by omega)) (rm_nm (fun x22 ex22 => ?_))
  exact rm_vret hc dX6_copyFrom_94 (by subst_vars; simp only [Nat.reduceMul, Nat.reduceAdd, cpS_b hkk, up_b _ _ _ hkk]; exact cpStateF hkk)
