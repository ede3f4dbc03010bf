abbrev rm_X6_canPress : Room := { frames := 0, cells := 0, slots := 0, locals := 0 }
set_option maxHeartbeats 4000000 in
set_option maxRecDepth 100000 in
theorem c_X6_canPress {l : Launch} {D : va_G} {cy : Nat → ClassId} {ad : Ads} (hI : IJ ad) (x : Mem) {k j : Nat} (hk : k < 7) (hj : j < 4) : Cti l yX6_canPress cX6_canPress 2 (some .boolean) rm_X6_canPress D cy ad [.ref (ad k 0 0), .int (nI (j))] x (fun r y => r = canS (x k (16 + 4 * j)) ∧ y = x) := by
  refine rm_entry (Qc := Qi D cy ad (fun r y => r = canS (x k (16 + 4 * j)) ∧ y = x)) hI (by decide) (Nat.le_of_ble_eq_true rfl) ?_
  intro p e s m args below meth c hc
  show RM _ _ _ _ _ _ _ _ _ _ _ _ _ _ _ _ _ [(0, .ref (ad k 0 0)), (1, .int (nI (j)))] []
  refine rm_iload_n hc dX6_canPress_0 rfl rfl ?_
  refine rm_if_lt (tgt := 25) hc dX6_canPress_1 (by decide) (fun h => absurd h (fun h2 => absurd ((nI_ltI (a := j) (b := 0) (by omega) (by omega)).mp h2) (by omega))) (fun _ => ?_)
  refine rm_iload_n hc dX6_canPress_4 rfl rfl ?_
  refine rm_iconst (v := 4) hc dX6_canPress_5 (by decide) ?_
  refine rm_icmp_ge (tgt := 25) hc dX6_canPress_6 (by decide) (fun h => absurd h (fun h2 => absurd ((nI_leI (a := 4) (b := j) (by omega) (by omega)).mp h2) (by omega))) (fun _ => ?_)
  refine rm_aload_n hc dX6_canPress_9 rfl rfl ?_
  refine rm_get hc dX6_canPress_10 fl_X6_11 (dm_0 (by omega)) rfl rfl ?_
  refine rm_iload_n hc dX6_canPress_13 rfl rfl ?_
  refine rm_aald (t0 := 1) (i := j) (v := .ref (ad k 2 j)) hc dX6_canPress_14 (dm_1 (by omega)) rfl rfl (by omega) (by decide) rfl rfl ?_
  refine rm_geti hc dX6_canPress_15 fl_X6_61 (dm_2 (by omega) (by omega)) rfl rfl (fun v_3 e_3 => ?_)
  refine rm_if_le (tgt := 25) hc dX6_canPress_18 (by decide) (fun c_4 => ?_) (fun c_4 => ?_)
  · --T
    refine rm_iconst (v := 0) hc dX6_canPress_25 (by decide) ?_
    exact rm_zret hc dX6_canPress_26 rfl ⟨by subst_vars; simp [canS, *], rfl⟩
  · --F
    refine rm_iconst (v := 1) hc dX6_canPress_21 (by decide) ?_
    refine rm_goto (tgt := 26) hc dX6_canPress_22 (by decide) ?_
    exact rm_zret hc dX6_canPress_26 rfl ⟨by subst_vars; simp [canS, *], rfl⟩

abbrev rm_X6_canSendAgain : Room := { frames := 0, cells := 0, slots := 0, locals := 0 }
set_option maxHeartbeats 4000000 in
set_option maxRecDepth 100000 in
theorem c_X6_canSendAgain {l : Launch} {D : va_G} {cy : Nat → ClassId} {ad : Ads} (hI : IJ ad) (x : Mem) {k ii nr : Nat} (hk : k < 7) (hnr : x k 5 = nI nr) (hr8 : nr ≤ 8) (hi8 : ii < 2 ^ 20) : Cti l yX6_canSendAgain cX6_canSendAgain 2 (some .boolean) rm_X6_canSendAgain D cy ad [.ref (ad k 0 0), .int (nI (ii))] x (fun r y => r = (if ii < nr then 1 else 0) ∧ y = x) := by
  refine rm_entry (Qc := Qi D cy ad (fun r y => r = (if ii < nr then 1 else 0) ∧ y = x)) hI (by decide) (Nat.le_of_ble_eq_true rfl) ?_
  intro p e s m args below meth c hc
  show RM _ _ _ _ _ _ _ _ _ _ _ _ _ _ _ _ _ [(0, .ref (ad k 0 0)), (1, .int (nI (ii)))] []
  refine rm_iload_n hc dX6_canSendAgain_0 rfl rfl ?_
  refine rm_if_lt (tgt := 19) hc dX6_canSendAgain_1 (by decide) (fun h => absurd h (fun h2 => absurd ((nI_ltI (a := ii) (b := 0) (by omega) (by omega)).mp h2) (by omega))) (fun _ => ?_)
  refine rm_iload_n hc dX6_canSendAgain_4 rfl rfl ?_
  refine rm_aload_n hc dX6_canSendAgain_5 rfl rfl ?_
  refine rm_get hc dX6_canSendAgain_6 fl_X6_30 (dm_0 (by omega)) rfl rfl ?_
  refine rm_geti hc dX6_canSendAgain_9 fl_X6_64 (dm_6 (by omega)) rfl rfl (fun v_2 e_2 => ?_)
  obtain rfl : v_2 = nI nr := e_2.trans hnr
  rcases Nat.lt_or_ge ii nr with z_3 | z_3
  · --
    refine rm_icmp_ge (tgt := 19) hc dX6_canSendAgain_12 (by decide) (fun h => absurd h (fun h2 => absurd ((nI_leI (a := nr) (b := ii) (by omega) (by omega)).mp h2) (by omega))) (fun _ => ?_)
    refine rm_iconst (v := 1) hc dX6_canSendAgain_15 (by decide) ?_
    refine rm_goto (tgt := 20) hc dX6_canSendAgain_16 (by decide) ?_
    exact rm_zret hc dX6_canSendAgain_20 rfl ⟨by rw [if_pos (by omega)], rfl⟩
  · --
    refine rm_icmp_ge (tgt := 19) hc dX6_canSendAgain_12 (by decide) (fun _ => ?_) (fun h => absurd ((nI_leI (a := nr) (b := ii) (by omega) (by omega)).mpr (by omega)) h)
    refine rm_iconst (v := 0) hc dX6_canSendAgain_19 (by decide) ?_
    exact rm_zret hc dX6_canSendAgain_20 rfl ⟨by rw [if_neg (by omega)], rfl⟩

abbrev rm_X6_shutDoor : Room := { frames := 0, cells := 0, slots := 0, locals := 0 }
set_option maxHeartbeats 4000000 in
set_option maxRecDepth 100000 in
theorem c_X6_shutDoor {l : Launch} {D : va_G} {cy : Nat → ClassId} {ad : Ads} (hI : IJ ad) (x : Mem) {k dd : Nat} (hk : k < 7) (hd3 : dd < 3) : Cti l yX6_shutDoor cX6_shutDoor 2 (some .boolean) rm_X6_shutDoor D cy ad [.ref (ad k 0 0), .int (nI (dd))] x (fun r y => r = 1 ∧ y = up x k (30 + 22 * dd) 0) := by
  refine rm_entry (Qc := Qi D cy ad (fun r y => r = 1 ∧ y = up x k (30 + 22 * dd) 0)) hI (by decide) (Nat.le_of_ble_eq_true rfl) ?_
  intro p e s m args below meth c hc
  show RM _ _ _ _ _ _ _ _ _ _ _ _ _ _ _ _ _ [(0, .ref (ad k 0 0)), (1, .int (nI (dd)))] []
  refine rm_iload_n hc dX6_shutDoor_0 rfl rfl ?_
  refine rm_if_lt (tgt := 9) hc dX6_shutDoor_1 (by decide) (fun h => absurd h (fun h2 => absurd ((nI_ltI (a := dd) (b := 0) (by omega) (by omega)).mp h2) (by omega))) (fun _ => ?_)
  refine rm_iload_n hc dX6_shutDoor_4 rfl rfl ?_
  refine rm_iconst (v := 3) hc dX6_shutDoor_5 (by decide) ?_
  refine rm_icmp_lt (tgt := 11) hc dX6_shutDoor_6 (by decide) (fun _ => ?_) (fun h => absurd ((nI_ltI (a := dd) (b := 3) (by omega) (by omega)).mpr (by omega)) h)
  refine rm_aload_n hc dX6_shutDoor_11 rfl rfl ?_
  refine rm_get hc dX6_shutDoor_12 fl_X6_22 (dm_0 (by omega)) rfl rfl ?_
  refine rm_iload_n hc dX6_shutDoor_15 rfl rfl ?_
  refine rm_aald (t0 := 2) (i := dd) (v := .ref (ad k 4 dd)) hc dX6_shutDoor_16 (dm_3 (by omega)) rfl rfl (by omega) (by decide) rfl rfl ?_
  refine rm_iconst (v := 0) hc dX6_shutDoor_17 (by decide) ?_
  refine rm_put hc dX6_shutDoor_18 fl_X6_98 (dm_4 (by omega) (by omega) (by omega)) rfl (Nat.le_of_ble_eq_true rfl) ft_1_1 rfl rfl (so_4_1 (by omega) (by omega)) (rm_nm (fun x_3 ex_3 => ?_))
  refine rm_iconst (v := 1) hc dX6_shutDoor_21 (by decide) ?_
  exact rm_zret hc dX6_shutDoor_22 rfl ⟨rfl, by subst_vars; rfl⟩

abbrev rm_X6_presses : Room := { frames := 0, cells := 0, slots := 0, locals := 0 }
set_option maxHeartbeats 4000000 in
set_option maxRecDepth 100000 in
theorem c_X6_presses {l : Launch} {D : va_G} {cy : Nat → ClassId} {ad : Ads} (hI : IJ ad) (x : Mem) {k : Nat} (hk : k < 7) : Cti l yX6_presses cX6_presses 6 (some .int) rm_X6_presses D cy ad [.ref (ad k 0 0)] x (fun r y => r = sum4 (x k 17) (x k 21) (x k 25) (x k 29) ∧ y = x) := by
  refine rm_entry (Qc := Qi D cy ad (fun r y => r = sum4 (x k 17) (x k 21) (x k 25) (x k 29) ∧ y = x)) hI (by decide) (Nat.le_of_ble_eq_true rfl) ?_
  intro p e s m args below meth c hc
  show RM _ _ _ _ _ _ _ _ _ _ _ _ _ _ _ _ _ [(0, .ref (ad k 0 0))] []
  refine rm_iconst (v := 0) hc dX6_presses_0 (by decide) ?_
  refine rm_istore_n (ls' := [(0, .ref (ad k 0 0)), (1, .int 0)]) hc dX6_presses_1 rfl (by decide) rfl ?_
  refine rm_aload_n hc dX6_presses_2 rfl rfl ?_
  refine rm_get hc dX6_presses_3 fl_X6_11 (dm_0 (by omega)) rfl rfl ?_
  refine rm_astore_n (ls' := [(0, .ref (ad k 0 0)), (1, .int 0), (2, .ref (ad k 1 0))]) hc dX6_presses_6 rfl (by decide) rfl ?_
  refine rm_aload_n hc dX6_presses_7 rfl rfl ?_
  refine rm_alen (n := 0) (t0 := 1) (v := 4) hc dX6_presses_8 (dm_1 (by omega)) rfl rfl rfl ?_
  refine rm_istore_n (ls' := [(0, .ref (ad k 0 0)), (1, .int 0), (2, .ref (ad k 1 0)), (3, .int 4)]) hc dX6_presses_9 rfl (by decide) rfl ?_
  refine rm_iconst (v := 0) hc dX6_presses_10 (by decide) ?_
  refine rm_istore (ls' := [(0, .ref (ad k 0 0)), (1, .int 0), (2, .ref (ad k 1 0)), (3, .int 4), (4, .int 0)]) hc dX6_presses_11 (by decide) rfl ?_
  refine rm_iload hc dX6_presses_13 rfl ?_
  refine rm_iload_n hc dX6_presses_15 rfl rfl ?_
  refine rm_icmp_ge (tgt := 39) hc dX6_presses_16 (by decide) (fun h => absurd h (by decide)) (fun _ => ?_)
  refine rm_aload_n hc dX6_presses_19 rfl rfl ?_
  refine rm_iload hc dX6_presses_20 rfl ?_
  refine rm_aald (t0 := 1) (i := 0) (v := .ref (ad k 2 0)) hc dX6_presses_22 (dm_1 (by omega)) rfl rfl (by omega) (by decide) rfl rfl ?_
  refine rm_astore (ls' := [(0, .ref (ad k 0 0)), (1, .int 0), (2, .ref (ad k 1 0)), (3, .int 4), (4, .int 0), (5, .ref (ad k 2 0))]) hc dX6_presses_23 (by decide) rfl ?_
  refine rm_iload_n hc dX6_presses_25 rfl rfl ?_
  refine rm_aload hc dX6_presses_26 rfl ?_
  refine rm_geti hc dX6_presses_28 fl_X6_102 (dm_2 (by omega) (by omega)) rfl rfl (fun v_2 e_2 => ?_)
  refine rm_iadd hc dX6_presses_31 (fun v_3 e_3 => ?_)
  refine rm_istore_n (ls' := [(0, .ref (ad k 0 0)), (1, .int v_3), (2, .ref (ad k 1 0)), (3, .int 4), (4, .int 0), (5, .ref (ad k 2 0))]) hc dX6_presses_32 rfl (by decide) rfl ?_
  refine rm_iinc (v := 1) (ls' := [(0, .ref (ad k 0 0)), (1, .int v_3), (2, .ref (ad k 1 0)), (3, .int 4), (4, .int 1), (5, .ref (ad k 2 0))]) hc dX6_presses_33 rfl (by decide) (by decide) rfl ?_
  refine rm_goto (tgt := 13) hc dX6_presses_36 (by decide) ?_
  refine rm_iload hc dX6_presses_13 rfl ?_
  refine rm_iload_n hc dX6_presses_15 rfl rfl ?_
  refine rm_icmp_ge (tgt := 39) hc dX6_presses_16 (by decide) (fun h => absurd h (by decide)) (fun _ => ?_)
  refine rm_aload_n hc dX6_presses_19 rfl rfl ?_
  refine rm_iload hc dX6_presses_20 rfl ?_
  refine rm_aald (t0 := 1) (i := 1) (v := .ref (ad k 2 1)) hc dX6_presses_22 (dm_1 (by omega)) rfl rfl (by omega) (by decide) rfl rfl ?_
  refine rm_astore (ls' := [(0, .ref (ad k 0 0)), (1, .int v_3), (2, .ref (ad k 1 0)), (3, .int 4), (4, .int 1), (5, .ref (ad k 2 1))]) hc dX6_presses_23 (by decide) rfl ?_
  refine rm_iload_n hc dX6_presses_25 rfl rfl ?_
  refine rm_aload hc dX6_presses_26 rfl ?_
  refine rm_geti hc dX6_presses_28 fl_X6_102 (dm_2 (by omega) (by omega)) rfl rfl (fun v_5 e_5 => ?_)
  refine rm_iadd hc dX6_presses_31 (fun v_6 e_6 => ?_)
  refine rm_istore_n (ls' := [(0, .ref (ad k 0 0)), (1, .int v_6), (2, .ref (ad k 1 0)), (3, .int 4), (4, .int 1), (5, .ref (ad k 2 1))]) hc dX6_presses_32 rfl (by decide) rfl ?_
  refine rm_iinc (v := 2) (ls' := [(0, .ref (ad k 0 0)), (1, .int v_6), (2, .ref (ad k 1 0)), (3, .int 4), (4, .int 2), (5, .ref (ad k 2 1))]) hc dX6_presses_33 rfl (by decide) (by decide) rfl ?_
  refine rm_goto (tgt := 13) hc dX6_presses_36 (by decide) ?_
  refine rm_iload hc dX6_presses_13 rfl ?_
  refine rm_iload_n hc dX6_presses_15 rfl rfl ?_
  refine rm_icmp_ge (tgt := 39) hc dX6_presses_16 (by decide) (fun h => absurd h (by decide)) (fun _ => ?_)
  refine rm_aload_n hc dX6_presses_19 rfl rfl ?_
  refine rm_iload hc dX6_presses_20 rfl ?_
  refine rm_aald (t0 := 1) (i := 2) (v := .ref (ad k 2 2)) hc dX6_presses_22 (dm_1 (by omega)) rfl rfl (by omega) (by decide) rfl rfl ?_
  refine rm_astore (ls' := [(0, .ref (ad k 0 0)), (1, .int v_6), (2, .ref (ad k 1 0)), (3, .int 4), (4, .int 2), (5, .ref (ad k 2 2))]) hc dX6_presses_23 (by decide) rfl ?_
  refine rm_iload_n hc dX6_presses_25 rfl rfl ?_
  refine rm_aload hc dX6_presses_26 rfl ?_
  refine rm_geti hc dX6_presses_28 fl_X6_102 (dm_2 (by omega) (by omega)) rfl rfl (fun v_8 e_8 => ?_)
  refine rm_iadd hc dX6_presses_31 (fun v_9 e_9 => ?_)
  refine rm_istore_n (ls' := [(0, .ref (ad k 0 0)), (1, .int v_9), (2, .ref (ad k 1 0)), (3, .int 4), (4, .int 2), (5, .ref (ad k 2 2))]) hc dX6_presses_32 rfl (by decide) rfl ?_
  refine rm_iinc (v := 3) (ls' := [(0, .ref (ad k 0 0)), (1, .int v_9), (2, .ref (ad k 1 0)), (3, .int 4), (4, .int 3), (5, .ref (ad k 2 2))]) hc dX6_presses_33 rfl (by decide) (by decide) rfl ?_
  refine rm_goto (tgt := 13) hc dX6_presses_36 (by decide) ?_
  refine rm_iload hc dX6_presses_13 rfl ?_
  refine rm_iload_n hc dX6_presses_15 rfl rfl ?_
  refine rm_icmp_ge (tgt := 39) hc dX6_presses_16 (by decide) (fun h => absurd h (by decide)) (fun _ => ?_)
  refine rm_aload_n hc dX6_presses_19 rfl rfl ?_
  refine rm_iload hc dX6_presses_20 rfl ?_
  refine rm_aald (t0 := 1) (i := 3) (v := .ref (ad k 2 3)) hc dX6_presses_22 (dm_1 (by omega)) rfl rfl (by omega) (by decide) rfl rfl ?_
  refine rm_astore (ls' := [(0, .ref (ad k 0 0)), (1, .int v_9), (2, .ref (ad k 1 0)), (3, .int 4), (4, .int 3), (5, .ref (ad k 2 3))]) hc dX6_presses_23 (by decide) rfl ?_
  refine rm_iload_n hc dX6_presses_25 rfl rfl ?_
  refine rm_aload hc dX6_presses_26 rfl ?_
  refine rm_geti hc dX6_presses_28 fl_X6_102 (dm_2 (by omega) (by omega)) rfl rfl (fun v_11 e_11 => ?_)
  refine rm_iadd hc dX6_presses_31 (fun v_12 e_12 => ?_)
  refine rm_istore_n (ls' := [(0, .ref (ad k 0 0)), (1, .int v_12), (2, .ref (ad k 1 0)), (3, .int 4), (4, .int 3), (5, .ref (ad k 2 3))]) hc dX6_presses_32 rfl (by decide) rfl ?_
  refine rm_iinc (v := 4) (ls' := [(0, .ref (ad k 0 0)), (1, .int v_12), (2, .ref (ad k 1 0)), (3, .int 4), (4, .int 4), (5, .ref (ad k 2 3))]) hc dX6_presses_33 rfl (by decide) (by decide) rfl ?_
  refine rm_goto (tgt := 13) hc dX6_presses_36 (by decide) ?_
  refine rm_iload hc dX6_presses_13 rfl ?_
  refine rm_iload_n hc dX6_presses_15 rfl rfl ?_
  refine rm_icmp_ge (tgt := 39) hc dX6_presses_16 (by decide) (fun _ => ?_) (fun h => absurd (by decide) h)
  refine rm_iload_n hc dX6_presses_39 rfl rfl ?_
  exact rm_iret hc dX6_presses_40 ⟨by subst_vars; rfl, rfl⟩

abbrev rm_X6_timesOpened : Room := { frames := 0, cells := 0, slots := 0, locals := 0 }
set_option maxHeartbeats 4000000 in
set_option maxRecDepth 100000 in
theorem c_X6_timesOpened {l : Launch} {D : va_G} {cy : Nat → ClassId} {ad : Ads} (hI : IJ ad) (x : Mem) {k : Nat} (hk : k < 7) : Cti l yX6_timesOpened cX6_timesOpened 6 (some .int) rm_X6_timesOpened D cy ad [.ref (ad k 0 0)] x (fun r y => r = sum3 (x k 32) (x k 54) (x k 76) ∧ y = x) := by
  refine rm_entry (Qc := Qi D cy ad (fun r y => r = sum3 (x k 32) (x k 54) (x k 76) ∧ y = x)) hI (by decide) (Nat.le_of_ble_eq_true rfl) ?_
  intro p e s m args below meth c hc
  show RM _ _ _ _ _ _ _ _ _ _ _ _ _ _ _ _ _ [(0, .ref (ad k 0 0))] []
  refine rm_iconst (v := 0) hc dX6_timesOpened_0 (by decide) ?_
  refine rm_istore_n (ls' := [(0, .ref (ad k 0 0)), (1, .int 0)]) hc dX6_timesOpened_1 rfl (by decide) rfl ?_
  refine rm_aload_n hc dX6_timesOpened_2 rfl rfl ?_
  refine rm_get hc dX6_timesOpened_3 fl_X6_22 (dm_0 (by omega)) rfl rfl ?_
  refine rm_astore_n (ls' := [(0, .ref (ad k 0 0)), (1, .int 0), (2, .ref (ad k 3 0))]) hc dX6_timesOpened_6 rfl (by decide) rfl ?_
  refine rm_aload_n hc dX6_timesOpened_7 rfl rfl ?_
  refine rm_alen (n := 0) (t0 := 2) (v := 3) hc dX6_timesOpened_8 (dm_3 (by omega)) rfl rfl rfl ?_
  refine rm_istore_n (ls' := [(0, .ref (ad k 0 0)), (1, .int 0), (2, .ref (ad k 3 0)), (3, .int 3)]) hc dX6_timesOpened_9 rfl (by decide) rfl ?_
  refine rm_iconst (v := 0) hc dX6_timesOpened_10 (by decide) ?_
  refine rm_istore (ls' := [(0, .ref (ad k 0 0)), (1, .int 0), (2, .ref (ad k 3 0)), (3, .int 3), (4, .int 0)]) hc dX6_timesOpened_11 (by decide) rfl ?_
  refine rm_iload hc dX6_timesOpened_13 rfl ?_
  refine rm_iload_n hc dX6_timesOpened_15 rfl rfl ?_
  refine rm_icmp_ge (tgt := 39) hc dX6_timesOpened_16 (by decide) (fun h => absurd h (by decide)) (fun _ => ?_)
  refine rm_aload_n hc dX6_timesOpened_19 rfl rfl ?_
  refine rm_iload hc dX6_timesOpened_20 rfl ?_
  refine rm_aald (t0 := 2) (i := 0) (v := .ref (ad k 4 0)) hc dX6_timesOpened_22 (dm_3 (by omega)) rfl rfl (by omega) (by decide) rfl rfl ?_
  refine rm_astore (ls' := [(0, .ref (ad k 0 0)), (1, .int 0), (2, .ref (ad k 3 0)), (3, .int 3), (4, .int 0), (5, .ref (ad k 4 0))]) hc dX6_timesOpened_23 (by decide) rfl ?_
  refine rm_iload_n hc dX6_timesOpened_25 rfl rfl ?_
  refine rm_aload hc dX6_timesOpened_26 rfl ?_
  refine rm_geti hc dX6_timesOpened_28 fl_X6_105 (dm_4 (by omega) (by omega) (by omega)) rfl rfl (fun v_2 e_2 => ?_)
  refine rm_iadd hc dX6_timesOpened_31 (fun v_3 e_3 => ?_)
  refine rm_istore_n (ls' := [(0, .ref (ad k 0 0)), (1, .int v_3), (2, .ref (ad k 3 0)), (3, .int 3), (4, .int 0), (5, .ref (ad k 4 0))]) hc dX6_timesOpened_32 rfl (by decide) rfl ?_
  refine rm_iinc (v := 1) (ls' := [(0, .ref (ad k 0 0)), (1, .int v_3), (2, .ref (ad k 3 0)), (3, .int 3), (4, .int 1), (5, .ref (ad k 4 0))]) hc dX6_timesOpened_33 rfl (by decide) (by decide) rfl ?_
  refine rm_goto (tgt := 13) hc dX6_timesOpened_36 (by decide) ?_
  refine rm_iload hc dX6_timesOpened_13 rfl ?_
  refine rm_iload_n hc dX6_timesOpened_15 rfl rfl ?_
  refine rm_icmp_ge (tgt := 39) hc dX6_timesOpened_16 (by decide) (fun h => absurd h (by decide)) (fun _ => ?_)
  refine rm_aload_n hc dX6_timesOpened_19 rfl rfl ?_
  refine rm_iload hc dX6_timesOpened_20 rfl ?_
  refine rm_aald (t0 := 2) (i := 1) (v := .ref (ad k 4 1)) hc dX6_timesOpened_22 (dm_3 (by omega)) rfl rfl (by omega) (by decide) rfl rfl ?_
  refine rm_astore (ls' := [(0, .ref (ad k 0 0)), (1, .int v_3), (2, .ref (ad k 3 0)), (3, .int 3), (4, .int 1), (5, .ref (ad k 4 1))]) hc dX6_timesOpened_23 (by decide) rfl ?_
  refine rm_iload_n hc dX6_timesOpened_25 rfl rfl ?_
  refine rm_aload hc dX6_timesOpened_26 rfl ?_
  refine rm_geti hc dX6_timesOpened_28 fl_X6_105 (dm_4 (by omega) (by omega) (by omega)) rfl rfl (fun v_5 e_5 => ?_)
  refine rm_iadd hc dX6_timesOpened_31 (fun v_6 e_6 => ?_)
  refine rm_istore_n (ls' := [(0, .ref (ad k 0 0)), (1, .int v_6), (2, .ref (ad k 3 0)), (3, .int 3), (4, .int 1), (5, .ref (ad k 4 1))]) hc dX6_timesOpened_32 rfl (by decide) rfl ?_
  refine rm_iinc (v := 2) (ls' := [(0, .ref (ad k 0 0)), (1, .int v_6), (2, .ref (ad k 3 0)), (3, .int 3), (4, .int 2), (5, .ref (ad k 4 1))]) hc dX6_timesOpened_33 rfl (by decide) (by decide) rfl ?_
  refine rm_goto (tgt := 13) hc dX6_timesOpened_36 (by decide) ?_
  refine rm_iload hc dX6_timesOpened_13 rfl ?_
  refine rm_iload_n hc dX6_timesOpened_15 rfl rfl ?_
  refine rm_icmp_ge (tgt := 39) hc dX6_timesOpened_16 (by decide) (fun h => absurd h (by decide)) (fun _ => ?_)
  refine rm_aload_n hc dX6_timesOpened_19 rfl rfl ?_
  refine rm_iload hc dX6_timesOpened_20 rfl ?_
  refine rm_aald (t0 := 2) (i := 2) (v := .ref (ad k 4 2)) hc dX6_timesOpened_22 (dm_3 (by omega)) rfl rfl (by omega) (by decide) rfl rfl ?_
  refine rm_astore (ls' := [(0, .ref (ad k 0 0)), (1, .int v_6), (2, .ref (ad k 3 0)), (3, .int 3), (4, .int 2), (5, .ref (ad k 4 2))]) hc dX6_timesOpened_23 (by decide) rfl ?_
  refine rm_iload_n hc dX6_timesOpened_25 rfl rfl ?_
  refine rm_aload hc dX6_timesOpened_26 rfl ?_
  refine rm_geti hc dX6_timesOpened_28 fl_X6_105 (dm_4 (by omega) (by omega) (by omega)) rfl rfl (fun v_8 e_8 => ?_)
  refine rm_iadd hc dX6_timesOpened_31 (fun v_9 e_9 => ?_)
  refine rm_istore_n (ls' := [(0, .ref (ad k 0 0)), (1, .int v_9), (2, .ref (ad k 3 0)), (3, .int 3), (4, .int 2), (5, .ref (ad k 4 2))]) hc dX6_timesOpened_32 rfl (by decide) rfl ?_
  refine rm_iinc (v := 3) (ls' := [(0, .ref (ad k 0 0)), (1, .int v_9), (2, .ref (ad k 3 0)), (3, .int 3), (4, .int 3), (5, .ref (ad k 4 2))]) hc dX6_timesOpened_33 rfl (by decide) (by decide) rfl ?_
  refine rm_goto (tgt := 13) hc dX6_timesOpened_36 (by decide) ?_
  refine rm_iload hc dX6_timesOpened_13 rfl ?_
  refine rm_iload_n hc dX6_timesOpened_15 rfl rfl ?_
  refine rm_icmp_ge (tgt := 39) hc dX6_timesOpened_16 (by decide) (fun _ => ?_) (fun h => absurd (by decide) h)
  refine rm_iload_n hc dX6_timesOpened_39 rfl rfl ?_
  exact rm_iret hc dX6_timesOpened_40 ⟨by subst_vars; rfl, rfl⟩

abbrev rm_X6_wrongNumbers : Room := { frames := 0, cells := 0, slots := 0, locals := 0 }
set_option maxHeartbeats 4000000 in
set_option maxRecDepth 100000 in
theorem c_X6_wrongNumbers {l : Launch} {D : va_G} {cy : Nat → ClassId} {ad : Ads} (hI : IJ ad) (x : Mem) {k : Nat} (hk : k < 7) : Cti l yX6_wrongNumbers cX6_wrongNumbers 6 (some .int) rm_X6_wrongNumbers D cy ad [.ref (ad k 0 0)] x (fun r y => r = sum3 (x k 34) (x k 56) (x k 78) ∧ y = x) := by
  refine rm_entry (Qc := Qi D cy ad (fun r y => r = sum3 (x k 34) (x k 56) (x k 78) ∧ y = x)) hI (by decide) (Nat.le_of_ble_eq_true rfl) ?_
  intro p e s m args below meth c hc
  show RM _ _ _ _ _ _ _ _ _ _ _ _ _ _ _ _ _ [(0, .ref (ad k 0 0))] []
  refine rm_iconst (v := 0) hc dX6_wrongNumbers_0 (by decide) ?_
  refine rm_istore_n (ls' := [(0, .ref (ad k 0 0)), (1, .int 0)]) hc dX6_wrongNumbers_1 rfl (by decide) rfl ?_
  refine rm_aload_n hc dX6_wrongNumbers_2 rfl rfl ?_
  refine rm_get hc dX6_wrongNumbers_3 fl_X6_22 (dm_0 (by omega)) rfl rfl ?_
  refine rm_astore_n (ls' := [(0, .ref (ad k 0 0)), (1, .int 0), (2, .ref (ad k 3 0))]) hc dX6_wrongNumbers_6 rfl (by decide) rfl ?_
  refine rm_aload_n hc dX6_wrongNumbers_7 rfl rfl ?_
  refine rm_alen (n := 0) (t0 := 2) (v := 3) hc dX6_wrongNumbers_8 (dm_3 (by omega)) rfl rfl rfl ?_
  refine rm_istore_n (ls' := [(0, .ref (ad k 0 0)), (1, .int 0), (2, .ref (ad k 3 0)), (3, .int 3)]) hc dX6_wrongNumbers_9 rfl (by decide) rfl ?_
  refine rm_iconst (v := 0) hc dX6_wrongNumbers_10 (by decide) ?_
  refine rm_istore (ls' := [(0, .ref (ad k 0 0)), (1, .int 0), (2, .ref (ad k 3 0)), (3, .int 3), (4, .int 0)]) hc dX6_wrongNumbers_11 (by decide) rfl ?_
  refine rm_iload hc dX6_wrongNumbers_13 rfl ?_
  refine rm_iload_n hc dX6_wrongNumbers_15 rfl rfl ?_
  refine rm_icmp_ge (tgt := 39) hc dX6_wrongNumbers_16 (by decide) (fun h => absurd h (by decide)) (fun _ => ?_)
  refine rm_aload_n hc dX6_wrongNumbers_19 rfl rfl ?_
  refine rm_iload hc dX6_wrongNumbers_20 rfl ?_
  refine rm_aald (t0 := 2) (i := 0) (v := .ref (ad k 4 0)) hc dX6_wrongNumbers_22 (dm_3 (by omega)) rfl rfl (by omega) (by decide) rfl rfl ?_
  refine rm_astore (ls' := [(0, .ref (ad k 0 0)), (1, .int 0), (2, .ref (ad k 3 0)), (3, .int 3), (4, .int 0), (5, .ref (ad k 4 0))]) hc dX6_wrongNumbers_23 (by decide) rfl ?_
  refine rm_iload_n hc dX6_wrongNumbers_25 rfl rfl ?_
  refine rm_aload hc dX6_wrongNumbers_26 rfl ?_
  refine rm_geti hc dX6_wrongNumbers_28 fl_X6_108 (dm_4 (by omega) (by omega) (by omega)) rfl rfl (fun v_2 e_2 => ?_)
  refine rm_iadd hc dX6_wrongNumbers_31 (fun v_3 e_3 => ?_)
  refine rm_istore_n (ls' := [(0, .ref (ad k 0 0)), (1, .int v_3), (2, .ref (ad k 3 0)), (3, .int 3), (4, .int 0), (5, .ref (ad k 4 0))]) hc dX6_wrongNumbers_32 rfl (by decide) rfl ?_
  refine rm_iinc (v := 1) (ls' := [(0, .ref (ad k 0 0)), (1, .int v_3), (2, .ref (ad k 3 0)), (3, .int 3), (4, .int 1), (5, .ref (ad k 4 0))]) hc dX6_wrongNumbers_33 rfl (by decide) (by decide) rfl ?_
  refine rm_goto (tgt := 13) hc dX6_wrongNumbers_36 (by decide) ?_
  refine rm_iload hc dX6_wrongNumbers_13 rfl ?_
  refine rm_iload_n hc dX6_wrongNumbers_15 rfl rfl ?_
  refine rm_icmp_ge (tgt := 39) hc dX6_wrongNumbers_16 (by decide) (fun h => absurd h (by decide)) (fun _ => ?_)
  refine rm_aload_n hc dX6_wrongNumbers_19 rfl rfl ?_
  refine rm_iload hc dX6_wrongNumbers_20 rfl ?_
  refine rm_aald (t0 := 2) (i := 1) (v := .ref (ad k 4 1)) hc dX6_wrongNumbers_22 (dm_3 (by omega)) rfl rfl (by omega) (by decide) rfl rfl ?_
  refine rm_astore (ls' := [(0, .ref (ad k 0 0)), (1, .int v_3), (2, .ref (ad k 3 0)), (3, .int 3), (4, .int 1), (5, .ref (ad k 4 1))]) hc dX6_wrongNumbers_23 (by decide) rfl ?_
  refine rm_iload_n hc dX6_wrongNumbers_25 rfl rfl ?_
  refine rm_aload hc dX6_wrongNumbers_26 rfl ?_
  refine rm_geti hc dX6_wrongNumbers_28 fl_X6_108 (dm_4 (by omega) (by omega) (by omega)) rfl rfl (fun v_5 e_5 => ?_)
  refine rm_iadd hc dX6_wrongNumbers_31 (fun v_6 e_6 => ?_)
  refine rm_istore_n (ls' := [(0, .ref (ad k 0 0)), (1, .int v_6), (2, .ref (ad k 3 0)), (3, .int 3), (4, .int 1), (5, .ref (ad k 4 1))]) hc dX6_wrongNumbers_32 rfl (by decide) rfl ?_
  refine rm_iinc (v := 2) (ls' := [(0, .ref (ad k 0 0)), (1, .int v_6), (2, .ref (ad k 3 0)), (3, .int 3), (4, .int 2), (5, .ref (ad k 4 1))]) hc dX6_wrongNumbers_33 rfl (by decide) (by decide) rfl ?_
  refine rm_goto (tgt := 13) hc dX6_wrongNumbers_36 (by decide) ?_
  refine rm_iload hc dX6_wrongNumbers_13 rfl ?_
  refine rm_iload_n hc dX6_wrongNumbers_15 rfl rfl ?_
  refine rm_icmp_ge (tgt := 39) hc dX6_wrongNumbers_16 (by decide) (fun h => absurd h (by decide)) (fun _ => ?_)
  refine rm_aload_n hc dX6_wrongNumbers_19 rfl rfl ?_
  refine rm_iload hc dX6_wrongNumbers_20 rfl ?_
  refine rm_aald (t0 := 2) (i := 2) (v := .ref (ad k 4 2)) hc dX6_wrongNumbers_22 (dm_3 (by omega)) rfl rfl (by omega) (by decide) rfl rfl ?_
  refine rm_astore (ls' := [(0, .ref (ad k 0 0)), (1, .int v_6), (2, .ref (ad k 3 0)), (3, .int 3), (4, .int 2), (5, .ref (ad k 4 2))]) hc dX6_wrongNumbers_23 (by decide) rfl ?_
  refine rm_iload_n hc dX6_wrongNumbers_25 rfl rfl ?_
  refine rm_aload hc dX6_wrongNumbers_26 rfl ?_
  refine rm_geti hc dX6_wrongNumbers_28 fl_X6_108 (dm_4 (by omega) (by omega) (by omega)) rfl rfl (fun v_8 e_8 => ?_)
  refine rm_iadd hc dX6_wrongNumbers_31 (fun v_9 e_9 => ?_)
  refine rm_istore_n (ls' := [(0, .ref (ad k 0 0)), (1, .int v_9), (2, .ref (ad k 3 0)), (3, .int 3), (4, .int 2), (5, .ref (ad k 4 2))]) hc dX6_wrongNumbers_32 rfl (by decide) rfl ?_
  refine rm_iinc (v := 3) (ls' := [(0, .ref (ad k 0 0)), (1, .int v_9), (2, .ref (ad k 3 0)), (3, .int 3), (4, .int 3), (5, .ref (ad k 4 2))]) hc dX6_wrongNumbers_33 rfl (by decide) (by decide) rfl ?_
  refine rm_goto (tgt := 13) hc dX6_wrongNumbers_36 (by decide) ?_
  refine rm_iload hc dX6_wrongNumbers_13 rfl ?_
  refine rm_iload_n hc dX6_wrongNumbers_15 rfl rfl ?_
  refine rm_icmp_ge (tgt := 39) hc dX6_wrongNumbers_16 (by decide) (fun _ => ?_) (fun h => absurd (by decide) h)
  refine rm_iload_n hc dX6_wrongNumbers_39 rfl rfl ?_
  exact rm_iret hc dX6_wrongNumbers_40 ⟨by subst_vars; rfl, rfl⟩

abbrev rm_X6_openDoors : Room := { frames := 0, cells := 0, slots := 0, locals := 0 }
set_option maxHeartbeats 4000000 in
set_option maxRecDepth 100000 in
theorem c_X6_openDoors {l : Launch} {D : va_G} {cy : Nat → ClassId} {ad : Ads} (hI : IJ ad) (x : Mem) {k : Nat} (hk : k < 7) : Cti l yX6_openDoors cX6_openDoors 6 (some .int) rm_X6_openDoors D cy ad [.ref (ad k 0 0)] x (fun r y => r = sum3 (b2 (x k 30)) (b2 (x k 52)) (b2 (x k 74)) ∧ y = x) := by
  refine rm_entry (Qc := Qi D cy ad (fun r y => r = sum3 (b2 (x k 30)) (b2 (x k 52)) (b2 (x k 74)) ∧ y = x)) hI (by decide) (Nat.le_of_ble_eq_true rfl) ?_
  intro p e s m args below meth c hc
  show RM _ _ _ _ _ _ _ _ _ _ _ _ _ _ _ _ _ [(0, .ref (ad k 0 0))] []
  refine rm_iconst (v := 0) hc dX6_openDoors_0 (by decide) ?_
  refine rm_istore_n (ls' := [(0, .ref (ad k 0 0)), (1, .int 0)]) hc dX6_openDoors_1 rfl (by decide) rfl ?_
  refine rm_aload_n hc dX6_openDoors_2 rfl rfl ?_
  refine rm_get hc dX6_openDoors_3 fl_X6_22 (dm_0 (by omega)) rfl rfl ?_
  refine rm_astore_n (ls' := [(0, .ref (ad k 0 0)), (1, .int 0), (2, .ref (ad k 3 0))]) hc dX6_openDoors_6 rfl (by decide) rfl ?_
  refine rm_aload_n hc dX6_openDoors_7 rfl rfl ?_
  refine rm_alen (n := 0) (t0 := 2) (v := 3) hc dX6_openDoors_8 (dm_3 (by omega)) rfl rfl rfl ?_
  refine rm_istore_n (ls' := [(0, .ref (ad k 0 0)), (1, .int 0), (2, .ref (ad k 3 0)), (3, .int 3)]) hc dX6_openDoors_9 rfl (by decide) rfl ?_
  refine rm_iconst (v := 0) hc dX6_openDoors_10 (by decide) ?_
  refine rm_istore (ls' := [(0, .ref (ad k 0 0)), (1, .int 0), (2, .ref (ad k 3 0)), (3, .int 3), (4, .int 0)]) hc dX6_openDoors_11 (by decide) rfl ?_
  refine rm_iload hc dX6_openDoors_13 rfl ?_
  refine rm_iload_n hc dX6_openDoors_15 rfl rfl ?_
  refine rm_icmp_ge (tgt := 47) hc dX6_openDoors_16 (by decide) (fun h => absurd h (by decide)) (fun _ => ?_)
  refine rm_aload_n hc dX6_openDoors_19 rfl rfl ?_
  refine rm_iload hc dX6_openDoors_20 rfl ?_
  refine rm_aald (t0 := 2) (i := 0) (v := .ref (ad k 4 0)) hc dX6_openDoors_22 (dm_3 (by omega)) rfl rfl (by omega) (by decide) rfl rfl ?_
  refine rm_astore (ls' := [(0, .ref (ad k 0 0)), (1, .int 0), (2, .ref (ad k 3 0)), (3, .int 3), (4, .int 0), (5, .ref (ad k 4 0))]) hc dX6_openDoors_23 (by decide) rfl ?_
  refine rm_iload_n hc dX6_openDoors_25 rfl rfl ?_
  refine rm_aload hc dX6_openDoors_26 rfl ?_
  refine rm_geti hc dX6_openDoors_28 fl_X6_98 (dm_4 (by omega) (by omega) (by omega)) rfl rfl (fun v_2 e_2 => ?_)
  refine rm_if_eq (tgt := 38) hc dX6_openDoors_31 (by decide) (fun c_3 => ?_) (fun c_3 => ?_)
  · --
    refine rm_iconst (v := 0) hc dX6_openDoors_38 (by decide) ?_
    refine rm_iadd hc dX6_openDoors_39 (fun v_4 e_4 => ?_)
    obtain rfl : v_4 = 0 := e_4.trans (by decide)
    clear e_4
    refine rm_istore_n (ls' := [(0, .ref (ad k 0 0)), (1, .int 0), (2, .ref (ad k 3 0)), (3, .int 3), (4, .int 0), (5, .ref (ad k 4 0))]) hc dX6_openDoors_40 rfl (by decide) rfl ?_
    refine rm_iinc (v := 1) (ls' := [(0, .ref (ad k 0 0)), (1, .int 0), (2, .ref (ad k 3 0)), (3, .int 3), (4, .int 1), (5, .ref (ad k 4 0))]) hc dX6_openDoors_41 rfl (by decide) (by decide) rfl ?_
    refine rm_goto (tgt := 13) hc dX6_openDoors_44 (by decide) ?_
    refine rm_iload hc dX6_openDoors_13 rfl ?_
    refine rm_iload_n hc dX6_openDoors_15 rfl rfl ?_
    refine rm_icmp_ge (tgt := 47) hc dX6_openDoors_16 (by decide) (fun h => absurd h (by decide)) (fun _ => ?_)
    refine rm_aload_n hc dX6_openDoors_19 rfl rfl ?_
    refine rm_iload hc dX6_openDoors_20 rfl ?_
    refine rm_aald (t0 := 2) (i := 1) (v := .ref (ad k 4 1)) hc dX6_openDoors_22 (dm_3 (by omega)) rfl rfl (by omega) (by decide) rfl rfl ?_
    refine rm_astore (ls' := [(0, .ref (ad k 0 0)), (1, .int 0), (2, .ref (ad k 3 0)), (3, .int 3), (4, .int 1), (5, .ref (ad k 4 1))]) hc dX6_openDoors_23 (by decide) rfl ?_
    refine rm_iload_n hc dX6_openDoors_25 rfl rfl ?_
    refine rm_aload hc dX6_openDoors_26 rfl ?_
    refine rm_geti hc dX6_openDoors_28 fl_X6_98 (dm_4 (by omega) (by omega) (by omega)) rfl rfl (fun v_6 e_6 => ?_)
    refine rm_if_eq (tgt := 38) hc dX6_openDoors_31 (by decide) (fun c_7 => ?_) (fun c_7 => ?_)
    · --
      refine rm_iconst (v := 0) hc dX6_openDoors_38 (by decide) ?_
      refine rm_iadd hc dX6_openDoors_39 (fun v_8 e_8 => ?_)
      obtain rfl : v_8 = 0 := e_8.trans (by decide)
      clear e_8
      refine rm_istore_n (ls' := [(0, .ref (ad k 0 0)), (1, .int 0), (2, .ref (ad k 3 0)), (3, .int 3), (4, .int 1), (5, .ref (ad k 4 1))]) hc dX6_openDoors_40 rfl (by decide) rfl ?_
      refine rm_iinc (v := 2) (ls' := [(0, .ref (ad k 0 0)), (1, .int 0), (2, .ref (ad k 3 0)), (3, .int 3), (4, .int 2), (5, .ref (ad k 4 1))]) hc dX6_openDoors_41 rfl (by decide) (by decide) rfl ?_
      refine rm_goto (tgt := 13) hc dX6_openDoors_44 (by decide) ?_
      refine rm_iload hc dX6_openDoors_13 rfl ?_
      refine rm_iload_n hc dX6_openDoors_15 rfl rfl ?_
      refine rm_icmp_ge (tgt := 47) hc dX6_openDoors_16 (by decide) (fun h => absurd h (by decide)) (fun _ => ?_)
      refine rm_aload_n hc dX6_openDoors_19 rfl rfl ?_
      refine rm_iload hc dX6_openDoors_20 rfl ?_
      refine rm_aald (t0 := 2) (i := 2) (v := .ref (ad k 4 2)) hc dX6_openDoors_22 (dm_3 (by omega)) rfl rfl (by omega) (by decide) rfl rfl ?_
      refine rm_astore (ls' := [(0, .ref (ad k 0 0)), (1, .int 0), (2, .ref (ad k 3 0)), (3, .int 3), (4, .int 2), (5, .ref (ad k 4 2))]) hc dX6_openDoors_23 (by decide) rfl ?_
      refine rm_iload_n hc dX6_openDoors_25 rfl rfl ?_
      refine rm_aload hc dX6_openDoors_26 rfl ?_
      refine rm_geti hc dX6_openDoors_28 fl_X6_98 (dm_4 (by omega) (by omega) (by omega)) rfl rfl (fun v_10 e_10 => ?_)
      refine rm_if_eq (tgt := 38) hc dX6_openDoors_31 (by decide) (fun c_11 => ?_) (fun c_11 => ?_)
      · --
        refine rm_iconst (v := 0) hc dX6_openDoors_38 (by decide) ?_
        refine rm_iadd hc dX6_openDoors_39 (fun v_12 e_12 => ?_)
        obtain rfl : v_12 = 0 := e_12.trans (by decide)
        clear e_12
        refine rm_istore_n (ls' := [(0, .ref (ad k 0 0)), (1, .int 0), (2, .ref (ad k 3 0)), (3, .int 3), (4, .int 2), (5, .ref (ad k 4 2))]) hc dX6_openDoors_40 rfl (by decide) rfl ?_
        refine rm_iinc (v := 3) (ls' := [(0, .ref (ad k 0 0)), (1, .int 0), (2, .ref (ad k 3 0)), (3, .int 3), (4, .int 3), (5, .ref (ad k 4 2))]) hc dX6_openDoors_41 rfl (by decide) (by decide) rfl ?_
        refine rm_goto (tgt := 13) hc dX6_openDoors_44 (by decide) ?_
        refine rm_iload hc dX6_openDoors_13 rfl ?_
        refine rm_iload_n hc dX6_openDoors_15 rfl rfl ?_
        refine rm_icmp_ge (tgt := 47) hc dX6_openDoors_16 (by decide) (fun _ => ?_) (fun h => absurd (by decide) h)
        refine rm_iload_n hc dX6_openDoors_47 rfl rfl ?_
        exact rm_iret hc dX6_openDoors_48 ⟨sum3_of (b2_0 (e_2.symm.trans c_3)) (b2_0 (e_6.symm.trans c_7)) (b2_0 (e_10.symm.trans c_11)) (by decide), rfl⟩
      · --
        refine rm_iconst (v := 1) hc dX6_openDoors_34 (by decide) ?_
        refine rm_goto (tgt := 39) hc dX6_openDoors_35 (by decide) ?_
        refine rm_iadd hc dX6_openDoors_39 (fun v_14 e_14 => ?_)
        obtain rfl : v_14 = 1 := e_14.trans (by decide)
        clear e_14
        refine rm_istore_n (ls' := [(0, .ref (ad k 0 0)), (1, .int 1), (2, .ref (ad k 3 0)), (3, .int 3), (4, .int 2), (5, .ref (ad k 4 2))]) hc dX6_openDoors_40 rfl (by decide) rfl ?_
        refine rm_iinc (v := 3) (ls' := [(0, .ref (ad k 0 0)), (1, .int 1), (2, .ref (ad k 3 0)), (3, .int 3), (4, .int 3), (5, .ref (ad k 4 2))]) hc dX6_openDoors_41 rfl (by decide) (by decide) rfl ?_
        refine rm_goto (tgt := 13) hc dX6_openDoors_44 (by decide) ?_
        refine rm_iload hc dX6_openDoors_13 rfl ?_
        refine rm_iload_n hc dX6_openDoors_15 rfl rfl ?_
        refine rm_icmp_ge (tgt := 47) hc dX6_openDoors_16 (by decide) (fun _ => ?_) (fun h => absurd (by decide) h)
        refine rm_iload_n hc dX6_openDoors_47 rfl rfl ?_
        exact rm_iret hc dX6_openDoors_48 ⟨sum3_of (b2_0 (e_2.symm.trans c_3)) (b2_0 (e_6.symm.trans c_7)) (b2_1 (fun h => c_11 (e_10.trans h))) (by decide), rfl⟩
    · --
      refine rm_iconst (v := 1) hc dX6_openDoors_34 (by decide) ?_
      refine rm_goto (tgt := 39) hc dX6_openDoors_35 (by decide) ?_
      refine rm_iadd hc dX6_openDoors_39 (fun v_16 e_16 => ?_)
      obtain rfl : v_16 = 1 := e_16.trans (by decide)
      clear e_16
      refine rm_istore_n (ls' := [(0, .ref (ad k 0 0)), (1, .int 1), (2, .ref (ad k 3 0)), (3, .int 3), (4, .int 1), (5, .ref (ad k 4 1))]) hc dX6_openDoors_40 rfl (by decide) rfl ?_
      refine rm_iinc (v := 2) (ls' := [(0, .ref (ad k 0 0)), (1, .int 1), (2, .ref (ad k 3 0)), (3, .int 3), (4, .int 2), (5, .ref (ad k 4 1))]) hc dX6_openDoors_41 rfl (by decide) (by decide) rfl ?_
      refine rm_goto (tgt := 13) hc dX6_openDoors_44 (by decide) ?_
      refine rm_iload hc dX6_openDoors_13 rfl ?_
      refine rm_iload_n hc dX6_openDoors_15 rfl rfl ?_
      refine rm_icmp_ge (tgt := 47) hc dX6_openDoors_16 (by decide) (fun h => absurd h (by decide)) (fun _ => ?_)
      refine rm_aload_n hc dX6_openDoors_19 rfl rfl ?_
      refine rm_iload hc dX6_openDoors_20 rfl ?_
      refine rm_aald (t0 := 2) (i := 2) (v := .ref (ad k 4 2)) hc dX6_openDoors_22 (dm_3 (by omega)) rfl rfl (by omega) (by decide) rfl rfl ?_
      refine rm_astore (ls' := [(0, .ref (ad k 0 0)), (1, .int 1), (2, .ref (ad k 3 0)), (3, .int 3), (4, .int 2), (5, .ref (ad k 4 2))]) hc dX6_openDoors_23 (by decide) rfl ?_
      refine rm_iload_n hc dX6_openDoors_25 rfl rfl ?_
      refine rm_aload hc dX6_openDoors_26 rfl ?_
      refine rm_geti hc dX6_openDoors_28 fl_X6_98 (dm_4 (by omega) (by omega) (by omega)) rfl rfl (fun v_18 e_18 => ?_)
      refine rm_if_eq (tgt := 38) hc dX6_openDoors_31 (by decide) (fun c_19 => ?_) (fun c_19 => ?_)
      · --
        refine rm_iconst (v := 0) hc dX6_openDoors_38 (by decide) ?_
        refine rm_iadd hc dX6_openDoors_39 (fun v_20 e_20 => ?_)
        obtain rfl : v_20 = 1 := e_20.trans (by decide)
        clear e_20
        refine rm_istore_n (ls' := [(0, .ref (ad k 0 0)), (1, .int 1), (2, .ref (ad k 3 0)), (3, .int 3), (4, .int 2), (5, .ref (ad k 4 2))]) hc dX6_openDoors_40 rfl (by decide) rfl ?_
        refine rm_iinc (v := 3) (ls' := [(0, .ref (ad k 0 0)), (1, .int 1), (2, .ref (ad k 3 0)), (3, .int 3), (4, .int 3), (5, .ref (ad k 4 2))]) hc dX6_openDoors_41 rfl (by decide) (by decide) rfl ?_
        refine rm_goto (tgt := 13) hc dX6_openDoors_44 (by decide) ?_
        refine rm_iload hc dX6_openDoors_13 rfl ?_
        refine rm_iload_n hc dX6_openDoors_15 rfl rfl ?_
        refine rm_icmp_ge (tgt := 47) hc dX6_openDoors_16 (by decide) (fun _ => ?_) (fun h => absurd (by decide) h)
        refine rm_iload_n hc dX6_openDoors_47 rfl rfl ?_
        exact rm_iret hc dX6_openDoors_48 ⟨sum3_of (b2_0 (e_2.symm.trans c_3)) (b2_1 (fun h => c_7 (e_6.trans h))) (b2_0 (e_18.symm.trans c_19)) (by decide), rfl⟩
      · --
        refine rm_iconst (v := 1) hc dX6_openDoors_34 (by decide) ?_
        refine rm_goto (tgt := 39) hc dX6_openDoors_35 (by decide) ?_
        refine rm_iadd hc dX6_openDoors_39 (fun v_22 e_22 => ?_)
        obtain rfl : v_22 = 2 := e_22.trans (by decide)
        clear e_22
        refine rm_istore_n (ls' := [(0, .ref (ad k 0 0)), (1, .int 2), (2, .ref (ad k 3 0)), (3, .int 3), (4, .int 2), (5, .ref (ad k 4 2))]) hc dX6_openDoors_40 rfl (by decide) rfl ?_
        refine rm_iinc (v := 3) (ls' := [(0, .ref (ad k 0 0)), (1, .int 2), (2, .ref (ad k 3 0)), (3, .int 3), (4, .int 3), (5, .ref (ad k 4 2))]) hc dX6_openDoors_41 rfl (by decide) (by decide) rfl ?_
        refine rm_goto (tgt := 13) hc dX6_openDoors_44 (by decide) ?_
        refine rm_iload hc dX6_openDoors_13 rfl ?_
        refine rm_iload_n hc dX6_openDoors_15 rfl rfl ?_
        refine rm_icmp_ge (tgt := 47) hc dX6_openDoors_16 (by decide) (fun _ => ?_) (fun h => absurd (by decide) h)
        refine rm_iload_n hc dX6_openDoors_47 rfl rfl ?_
        exact rm_iret hc dX6_openDoors_48 ⟨sum3_of (b2_0 (e_2.symm.trans c_3)) (b2_1 (fun h => c_7 (e_6.trans h))) (b2_1 (fun h => c_19 (e_18.trans h))) (by decide), rfl⟩
  · --
    refine rm_iconst (v := 1) hc dX6_openDoors_34 (by decide) ?_
    refine rm_goto (tgt := 39) hc dX6_openDoors_35 (by decide) ?_
    refine rm_iadd hc dX6_openDoors_39 (fun v_24 e_24 => ?_)
    obtain rfl : v_24 = 1 := e_24.trans (by decide)
    clear e_24
    refine rm_istore_n (ls' := [(0, .ref (ad k 0 0)), (1, .int 1), (2, .ref (ad k 3 0)), (3, .int 3), (4, .int 0), (5, .ref (ad k 4 0))]) hc dX6_openDoors_40 rfl (by decide) rfl ?_
    refine rm_iinc (v := 1) (ls' := [(0, .ref (ad k 0 0)), (1, .int 1), (2, .ref (ad k 3 0)), (3, .int 3), (4, .int 1), (5, .ref (ad k 4 0))]) hc dX6_openDoors_41 rfl (by decide) (by decide) rfl ?_
    refine rm_goto (tgt := 13) hc dX6_openDoors_44 (by decide) ?_
    refine rm_iload hc dX6_openDoors_13 rfl ?_
    refine rm_iload_n hc dX6_openDoors_15 rfl rfl ?_
    refine rm_icmp_ge (tgt := 47) hc dX6_openDoors_16 (by decide) (fun h => absurd h (by decide)) (fun _ => ?_)
    refine rm_aload_n hc dX6_openDoors_19 rfl rfl ?_
    refine rm_iload hc dX6_openDoors_20 rfl ?_
    refine rm_aald (t0 := 2) (i := 1) (v := .ref (ad k 4 1)) hc dX6_openDoors_22 (dm_3 (by omega)) rfl rfl (by omega) (by decide) rfl rfl ?_
    refine rm_astore (ls' := [(0, .ref (ad k 0 0)), (1, .int 1), (2, .ref (ad k 3 0)), (3, .int 3), (4, .int 1), (5, .ref (ad k 4 1))]) hc dX6_openDoors_23 (by decide) rfl ?_
    refine rm_iload_n hc dX6_openDoors_25 rfl rfl ?_
    refine rm_aload hc dX6_openDoors_26 rfl ?_
    refine rm_geti hc dX6_openDoors_28 fl_X6_98 (dm_4 (by omega) (by omega) (by omega)) rfl rfl (fun v_26 e_26 => ?_)
    refine rm_if_eq (tgt := 38) hc dX6_openDoors_31 (by decide) (fun c_27 => ?_) (fun c_27 => ?_)
    · --
      refine rm_iconst (v := 0) hc dX6_openDoors_38 (by decide) ?_
      refine rm_iadd hc dX6_openDoors_39 (fun v_28 e_28 => ?_)
      obtain rfl : v_28 = 1 := e_28.trans (by decide)
      clear e_28
      refine rm_istore_n (ls' := [(0, .ref (ad k 0 0)), (1, .int 1), (2, .ref (ad k 3 0)), (3, .int 3), (4, .int 1), (5, .ref (ad k 4 1))]) hc dX6_openDoors_40 rfl (by decide) rfl ?_
      refine rm_iinc (v := 2) (ls' := [(0, .ref (ad k 0 0)), (1, .int 1), (2, .ref (ad k 3 0)), (3, .int 3), (4, .int 2), (5, .ref (ad k 4 1))]) hc dX6_openDoors_41 rfl (by decide) (by decide) rfl ?_
      refine rm_goto (tgt := 13) hc dX6_openDoors_44 (by decide) ?_
      refine rm_iload hc dX6_openDoors_13 rfl ?_
      refine rm_iload_n hc dX6_openDoors_15 rfl rfl ?_
      refine rm_icmp_ge (tgt := 47) hc dX6_openDoors_16 (by decide) (fun h => absurd h (by decide)) (fun _ => ?_)
      refine rm_aload_n hc dX6_openDoors_19 rfl rfl ?_
      refine rm_iload hc dX6_openDoors_20 rfl ?_
      refine rm_aald (t0 := 2) (i := 2) (v := .ref (ad k 4 2)) hc dX6_openDoors_22 (dm_3 (by omega)) rfl rfl (by omega) (by decide) rfl rfl ?_
      refine rm_astore (ls' := [(0, .ref (ad k 0 0)), (1, .int 1), (2, .ref (ad k 3 0)), (3, .int 3), (4, .int 2), (5, .ref (ad k 4 2))]) hc dX6_openDoors_23 (by decide) rfl ?_
      refine rm_iload_n hc dX6_openDoors_25 rfl rfl ?_
      refine rm_aload hc dX6_openDoors_26 rfl ?_
      refine rm_geti hc dX6_openDoors_28 fl_X6_98 (dm_4 (by omega) (by omega) (by omega)) rfl rfl (fun v_30 e_30 => ?_)
      refine rm_if_eq (tgt := 38) hc dX6_openDoors_31 (by decide) (fun c_31 => ?_) (fun c_31 => ?_)
      · --
        refine rm_iconst (v := 0) hc dX6_openDoors_38 (by decide) ?_
        refine rm_iadd hc dX6_openDoors_39 (fun v_32 e_32 => ?_)
        obtain rfl : v_32 = 1 := e_32.trans (by decide)
        clear e_32
        refine rm_istore_n (ls' := [(0, .ref (ad k 0 0)), (1, .int 1), (2, .ref (ad k 3 0)), (3, .int 3), (4, .int 2), (5, .ref (ad k 4 2))]) hc dX6_openDoors_40 rfl (by decide) rfl ?_
        refine rm_iinc (v := 3) (ls' := [(0, .ref (ad k 0 0)), (1, .int 1), (2, .ref (ad k 3 0)), (3, .int 3), (4, .int 3), (5, .ref (ad k 4 2))]) hc dX6_openDoors_41 rfl (by decide) (by decide) rfl ?_
        refine rm_goto (tgt := 13) hc dX6_openDoors_44 (by decide) ?_
        refine rm_iload hc dX6_openDoors_13 rfl ?_
        refine rm_iload_n hc dX6_openDoors_15 rfl rfl ?_
        refine rm_icmp_ge (tgt := 47) hc dX6_openDoors_16 (by decide) (fun _ => ?_) (fun h => absurd (by decide) h)
        refine rm_iload_n hc dX6_openDoors_47 rfl rfl ?_
        exact rm_iret hc dX6_openDoors_48 ⟨sum3_of (b2_1 (fun h => c_3 (e_2.trans h))) (b2_0 (e_26.symm.trans c_27)) (b2_0 (e_30.symm.trans c_31)) (by decide), rfl⟩
      · --
        refine rm_iconst (v := 1) hc dX6_openDoors_34 (by decide) ?_
        refine rm_goto (tgt := 39) hc dX6_openDoors_35 (by decide) ?_
        refine rm_iadd hc dX6_openDoors_39 (fun v_34 e_34 => ?_)
        obtain rfl : v_34 = 2 := e_34.trans (by decide)
        clear e_34
        refine rm_istore_n (ls' := [(0, .ref (ad k 0 0)), (1, .int 2), (2, .ref (ad k 3 0)), (3, .int 3), (4, .int 2), (5, .ref (ad k 4 2))]) hc dX6_openDoors_40 rfl (by decide) rfl ?_
        refine rm_iinc (v := 3) (ls' := [(0, .ref (ad k 0 0)), (1, .int 2), (2, .ref (ad k 3 0)), (3, .int 3), (4, .int 3), (5, .ref (ad k 4 2))]) hc dX6_openDoors_41 rfl (by decide) (by decide) rfl ?_
        refine rm_goto (tgt := 13) hc dX6_openDoors_44 (by decide) ?_
        refine rm_iload hc dX6_openDoors_13 rfl ?_
        refine rm_iload_n hc dX6_openDoors_15 rfl rfl ?_
        refine rm_icmp_ge (tgt := 47) hc dX6_openDoors_16 (by decide) (fun _ => ?_) (fun h => absurd (by decide) h)
        refine rm_iload_n hc dX6_openDoors_47 rfl rfl ?_
        exact rm_iret hc dX6_openDoors_48 ⟨sum3_of (b2_1 (fun h => c_3 (e_2.trans h))) (b2_0 (e_26.symm.trans c_27)) (b2_1 (fun h => c_31 (e_30.trans h))) (by decide), rfl⟩
    · --
      refine rm_iconst (v := 1) hc dX6_openDoors_34 (by decide) ?_
      refine rm_goto (tgt := 39) hc dX6_openDoors_35 (by decide) ?_
      refine rm_iadd hc dX6_openDoors_39 (fun v_36 e_36 => ?_)
      obtain rfl : v_36 = 2 := e_36.trans (by decide)
      clear e_36
      refine rm_istore_n (ls' := [(0, .ref (ad k 0 0)), (1, .int 2), (2, .ref (ad k 3 0)), (3, .int 3), (4, .int 1), (5, .ref (ad k 4 1))]) hc dX6_openDoors_40 rfl (by decide) rfl ?_
      refine rm_iinc (v := 2) (ls' := [(0, .ref (ad k 0 0)), (1, .int 2), (2, .ref (ad k 3 0)), (3, .int 3), (4, .int 2), (5, .ref (ad k 4 1))]) hc dX6_openDoors_41 rfl (by decide) (by decide) rfl ?_
      refine rm_goto (tgt := 13) hc dX6_openDoors_44 (by decide) ?_
      refine rm_iload hc dX6_openDoors_13 rfl ?_
      refine rm_iload_n hc dX6_openDoors_15 rfl rfl ?_
      refine rm_icmp_ge (tgt := 47) hc dX6_openDoors_16 (by decide) (fun h => absurd h (by decide)) (fun _ => ?_)
      refine rm_aload_n hc dX6_openDoors_19 rfl rfl ?_
      refine rm_iload hc dX6_openDoors_20 rfl ?_
      refine rm_aald (t0 := 2) (i := 2) (v := .ref (ad k 4 2)) hc dX6_openDoors_22 (dm_3 (by omega)) rfl rfl (by omega) (by decide) rfl rfl ?_
      refine rm_astore (ls' := [(0, .ref (ad k 0 0)), (1, .int 2), (2, .ref (ad k 3 0)), (3, .int 3), (4, .int 2), (5, .ref (ad k 4 2))]) hc dX6_openDoors_23 (by decide) rfl ?_
      refine rm_iload_n hc dX6_openDoors_25 rfl rfl ?_
      refine rm_aload hc dX6_openDoors_26 rfl ?_
      refine rm_geti hc dX6_openDoors_28 fl_X6_98 (dm_4 (by omega) (by omega) (by omega)) rfl rfl (fun v_38 e_38 => ?_)
      refine rm_if_eq (tgt := 38) hc dX6_openDoors_31 (by decide) (fun c_39 => ?_) (fun c_39 => ?_)
      · --
        refine rm_iconst (v := 0) hc dX6_openDoors_38 (by decide) ?_
        refine rm_iadd hc dX6_openDoors_39 (fun v_40 e_40 => ?_)
        obtain rfl : v_40 = 2 := e_40.trans (by decide)
        clear e_40
        refine rm_istore_n (ls' := [(0, .ref (ad k 0 0)), (1, .int 2), (2, .ref (ad k 3 0)), (3, .int 3), (4, .int 2), (5, .ref (ad k 4 2))]) hc dX6_openDoors_40 rfl (by decide) rfl ?_
        refine rm_iinc (v := 3) (ls' := [(0, .ref (ad k 0 0)), (1, .int 2), (2, .ref (ad k 3 0)), (3, .int 3), (4, .int 3), (5, .ref (ad k 4 2))]) hc dX6_openDoors_41 rfl (by decide) (by decide) rfl ?_
        refine rm_goto (tgt := 13) hc dX6_openDoors_44 (by decide) ?_
        refine rm_iload hc dX6_openDoors_13 rfl ?_
        refine rm_iload_n hc dX6_openDoors_15 rfl rfl ?_
        refine rm_icmp_ge (tgt := 47) hc dX6_openDoors_16 (by decide) (fun _ => ?_) (fun h => absurd (by decide) h)
        refine rm_iload_n hc dX6_openDoors_47 rfl rfl ?_
        exact rm_iret hc dX6_openDoors_48 ⟨sum3_of (b2_1 (fun h => c_3 (e_2.trans h))) (b2_1 (fun h => c_27 (e_26.trans h))) (b2_0 (e_38.symm.trans c_39)) (by decide), rfl⟩
      · --
        refine rm_iconst (v := 1) hc dX6_openDoors_34 (by decide) ?_
        refine rm_goto (tgt := 39) hc dX6_openDoors_35 (by decide) ?_
        refine rm_iadd hc dX6_openDoors_39 (fun v_42 e_42 => ?_)
        obtain rfl : v_42 = 3 := e_42.trans (by decide)
        clear e_42
        refine rm_istore_n (ls' := [(0, .ref (ad k 0 0)), (1, .int 3), (2, .ref (ad k 3 0)), (3, .int 3), (4, .int 2), (5, .ref (ad k 4 2))]) hc dX6_openDoors_40 rfl (by decide) rfl ?_
        refine rm_iinc (v := 3) (ls' := [(0, .ref (ad k 0 0)), (1, .int 3), (2, .ref (ad k 3 0)), (3, .int 3), (4, .int 3), (5, .ref (ad k 4 2))]) hc dX6_openDoors_41 rfl (by decide) (by decide) rfl ?_
        refine rm_goto (tgt := 13) hc dX6_openDoors_44 (by decide) ?_
        refine rm_iload hc dX6_openDoors_13 rfl ?_
        refine rm_iload_n hc dX6_openDoors_15 rfl rfl ?_
        refine rm_icmp_ge (tgt := 47) hc dX6_openDoors_16 (by decide) (fun _ => ?_) (fun h => absurd (by decide) h)
        refine rm_iload_n hc dX6_openDoors_47 rfl rfl ?_
        exact rm_iret hc dX6_openDoors_48 ⟨sum3_of (b2_1 (fun h => c_3 (e_2.trans h))) (b2_1 (fun h => c_27 (e_26.trans h))) (b2_1 (fun h => c_39 (e_38.trans h))) (by decide), rfl⟩

abbrev rm_X6_lockedDoors : Room := { frames := 1, cells := 0, slots := 0, locals := 21 }
set_option maxHeartbeats 4000000 in
set_option maxRecDepth 100000 in
theorem c_X6_lockedDoors {l : Launch} {D : va_G} {cy : Nat → ClassId} {ad : Ads} (hI : IJ ad) (x : Mem) {k : Nat} (hk : k < 7) : Cti l yX6_lockedDoors cX6_lockedDoors 6 (some .int) rm_X6_lockedDoors D cy ad [.ref (ad k 0 0)] x (fun r y => r = sum3 (b2 (lockS (x k 2) (x k 31))) (b2 (lockS (x k 2) (x k 53))) (b2 (lockS (x k 2) (x k 75))) ∧ y = x) := by
  refine rm_entry (Qc := Qi D cy ad (fun r y => r = sum3 (b2 (lockS (x k 2) (x k 31))) (b2 (lockS (x k 2) (x k 53))) (b2 (lockS (x k 2) (x k 75))) ∧ y = x)) hI (by decide) (Nat.le_of_ble_eq_true rfl) ?_
  intro p e s m args below meth c hc
  show RM _ _ _ _ _ _ _ _ _ _ _ _ _ _ _ _ _ [(0, .ref (ad k 0 0))] []
  refine rm_iconst (v := 0) hc dX6_lockedDoors_0 (by decide) ?_
  refine rm_istore_n (ls' := [(0, .ref (ad k 0 0)), (1, .int 0)]) hc dX6_lockedDoors_1 rfl (by decide) rfl ?_
  refine rm_aload_n hc dX6_lockedDoors_2 rfl rfl ?_
  refine rm_get hc dX6_lockedDoors_3 fl_X6_22 (dm_0 (by omega)) rfl rfl ?_
  refine rm_astore_n (ls' := [(0, .ref (ad k 0 0)), (1, .int 0), (2, .ref (ad k 3 0))]) hc dX6_lockedDoors_6 rfl (by decide) rfl ?_
  refine rm_aload_n hc dX6_lockedDoors_7 rfl rfl ?_
  refine rm_alen (n := 0) (t0 := 2) (v := 3) hc dX6_lockedDoors_8 (dm_3 (by omega)) rfl rfl rfl ?_
  refine rm_istore_n (ls' := [(0, .ref (ad k 0 0)), (1, .int 0), (2, .ref (ad k 3 0)), (3, .int 3)]) hc dX6_lockedDoors_9 rfl (by decide) rfl ?_
  refine rm_iconst (v := 0) hc dX6_lockedDoors_10 (by decide) ?_
  refine rm_istore (ls' := [(0, .ref (ad k 0 0)), (1, .int 0), (2, .ref (ad k 3 0)), (3, .int 3), (4, .int 0)]) hc dX6_lockedDoors_11 (by decide) rfl ?_
  refine rm_iload hc dX6_lockedDoors_13 rfl ?_
  refine rm_iload_n hc dX6_lockedDoors_15 rfl rfl ?_
  refine rm_icmp_ge (tgt := 51) hc dX6_lockedDoors_16 (by decide) (fun h => absurd h (by decide)) (fun _ => ?_)
  refine rm_aload_n hc dX6_lockedDoors_19 rfl rfl ?_
  refine rm_iload hc dX6_lockedDoors_20 rfl ?_
  refine rm_aald (t0 := 2) (i := 0) (v := .ref (ad k 4 0)) hc dX6_lockedDoors_22 (dm_3 (by omega)) rfl rfl (by omega) (by decide) rfl rfl ?_
  refine rm_astore (ls' := [(0, .ref (ad k 0 0)), (1, .int 0), (2, .ref (ad k 3 0)), (3, .int 3), (4, .int 0), (5, .ref (ad k 4 0))]) hc dX6_lockedDoors_23 (by decide) rfl ?_
  refine rm_iload_n hc dX6_lockedDoors_25 rfl rfl ?_
  refine rm_aload hc dX6_lockedDoors_26 rfl ?_
  refine rm_aload_n hc dX6_lockedDoors_28 rfl rfl ?_
  refine rm_get hc dX6_lockedDoors_29 fl_X6_37 (dm_0 (by omega)) rfl rfl ?_
  refine rm_calliV (As := [.ref (ad k 8 0)]) (rest := [.int 0]) hc dX6_lockedDoors_32 (c_X1_isLocked hI x (k := k) (d := 0) (k2 := k) (by omega) (by omega) (by omega) (by omega)) mv_X6_111 (dm_4 (by omega) (by omega) (by omega)) rfl rfl (hn := rfl) (hst := rfl) (hw := Nat.le_of_ble_eq_true rfl) (hR := ⟨⟨rfl, rfl⟩, Nat.le_of_ble_eq_true rfl, Nat.le_of_ble_eq_true rfl⟩) (hnc := ⟨Nat.zero_le _, Nat.zero_le _⟩) (fun r_2 y_2 h_2 => ?_)
  obtain ⟨e_2, ey_2⟩ := h_2
  obtain rfl := ey_2.symm
  refine rm_if_eq (tgt := 42) hc dX6_lockedDoors_35 (by decide) (fun c_3 => ?_) (fun c_3 => ?_)
  · --
    refine rm_iconst (v := 0) hc dX6_lockedDoors_42 (by decide) ?_
    refine rm_iadd hc dX6_lockedDoors_43 (fun v_4 e_4 => ?_)
    obtain rfl : v_4 = 0 := e_4.trans (by decide)
    clear e_4
    refine rm_istore_n (ls' := [(0, .ref (ad k 0 0)), (1, .int 0), (2, .ref (ad k 3 0)), (3, .int 3), (4, .int 0), (5, .ref (ad k 4 0))]) hc dX6_lockedDoors_44 rfl (by decide) rfl ?_
    refine rm_iinc (v := 1) (ls' := [(0, .ref (ad k 0 0)), (1, .int 0), (2, .ref (ad k 3 0)), (3, .int 3), (4, .int 1), (5, .ref (ad k 4 0))]) hc dX6_lockedDoors_45 rfl (by decide) (by decide) rfl ?_
    refine rm_goto (tgt := 13) hc dX6_lockedDoors_48 (by decide) ?_
    refine rm_iload hc dX6_lockedDoors_13 rfl ?_
    refine rm_iload_n hc dX6_lockedDoors_15 rfl rfl ?_
    refine rm_icmp_ge (tgt := 51) hc dX6_lockedDoors_16 (by decide) (fun h => absurd h (by decide)) (fun _ => ?_)
    refine rm_aload_n hc dX6_lockedDoors_19 rfl rfl ?_
    refine rm_iload hc dX6_lockedDoors_20 rfl ?_
    refine rm_aald (t0 := 2) (i := 1) (v := .ref (ad k 4 1)) hc dX6_lockedDoors_22 (dm_3 (by omega)) rfl rfl (by omega) (by decide) rfl rfl ?_
    refine rm_astore (ls' := [(0, .ref (ad k 0 0)), (1, .int 0), (2, .ref (ad k 3 0)), (3, .int 3), (4, .int 1), (5, .ref (ad k 4 1))]) hc dX6_lockedDoors_23 (by decide) rfl ?_
    refine rm_iload_n hc dX6_lockedDoors_25 rfl rfl ?_
    refine rm_aload hc dX6_lockedDoors_26 rfl ?_
    refine rm_aload_n hc dX6_lockedDoors_28 rfl rfl ?_
    refine rm_get hc dX6_lockedDoors_29 fl_X6_37 (dm_0 (by omega)) rfl rfl ?_
    refine rm_calliV (As := [.ref (ad k 8 0)]) (rest := [.int 0]) hc dX6_lockedDoors_32 (c_X1_isLocked hI x (k := k) (d := 1) (k2 := k) (by omega) (by omega) (by omega) (by omega)) mv_X6_111 (dm_4 (by omega) (by omega) (by omega)) rfl rfl (hn := rfl) (hst := rfl) (hw := Nat.le_of_ble_eq_true rfl) (hR := ⟨⟨rfl, rfl⟩, Nat.le_of_ble_eq_true rfl, Nat.le_of_ble_eq_true rfl⟩) (hnc := ⟨Nat.zero_le _, Nat.zero_le _⟩) (fun r_6 y_6 h_6 => ?_)
    obtain ⟨e_6, ey_6⟩ := h_6
    obtain rfl := ey_6.symm
    refine rm_if_eq (tgt := 42) hc dX6_lockedDoors_35 (by decide) (fun c_7 => ?_) (fun c_7 => ?_)
    · --
      refine rm_iconst (v := 0) hc dX6_lockedDoors_42 (by decide) ?_
      refine rm_iadd hc dX6_lockedDoors_43 (fun v_8 e_8 => ?_)
      obtain rfl : v_8 = 0 := e_8.trans (by decide)
      clear e_8
      refine rm_istore_n (ls' := [(0, .ref (ad k 0 0)), (1, .int 0), (2, .ref (ad k 3 0)), (3, .int 3), (4, .int 1), (5, .ref (ad k 4 1))]) hc dX6_lockedDoors_44 rfl (by decide) rfl ?_
      refine rm_iinc (v := 2) (ls' := [(0, .ref (ad k 0 0)), (1, .int 0), (2, .ref (ad k 3 0)), (3, .int 3), (4, .int 2), (5, .ref (ad k 4 1))]) hc dX6_lockedDoors_45 rfl (by decide) (by decide) rfl ?_
      refine rm_goto (tgt := 13) hc dX6_lockedDoors_48 (by decide) ?_
      refine rm_iload hc dX6_lockedDoors_13 rfl ?_
      refine rm_iload_n hc dX6_lockedDoors_15 rfl rfl ?_
      refine rm_icmp_ge (tgt := 51) hc dX6_lockedDoors_16 (by decide) (fun h => absurd h (by decide)) (fun _ => ?_)
      refine rm_aload_n hc dX6_lockedDoors_19 rfl rfl ?_
      refine rm_iload hc dX6_lockedDoors_20 rfl ?_
      refine rm_aald (t0 := 2) (i := 2) (v := .ref (ad k 4 2)) hc dX6_lockedDoors_22 (dm_3 (by omega)) rfl rfl (by omega) (by decide) rfl rfl ?_
      refine rm_astore (ls' := [(0, .ref (ad k 0 0)), (1, .int 0), (2, .ref (ad k 3 0)), (3, .int 3), (4, .int 2), (5, .ref (ad k 4 2))]) hc dX6_lockedDoors_23 (by decide) rfl ?_
      refine rm_iload_n hc dX6_lockedDoors_25 rfl rfl ?_
      refine rm_aload hc dX6_lockedDoors_26 rfl ?_
      refine rm_aload_n hc dX6_lockedDoors_28 rfl rfl ?_
      refine rm_get hc dX6_lockedDoors_29 fl_X6_37 (dm_0 (by omega)) rfl rfl ?_
      refine rm_calliV (As := [.ref (ad k 8 0)]) (rest := [.int 0]) hc dX6_lockedDoors_32 (c_X1_isLocked hI x (k := k) (d := 2) (k2 := k) (by omega) (by omega) (by omega) (by omega)) mv_X6_111 (dm_4 (by omega) (by omega) (by omega)) rfl rfl (hn := rfl) (hst := rfl) (hw := Nat.le_of_ble_eq_true rfl) (hR := ⟨⟨rfl, rfl⟩, Nat.le_of_ble_eq_true rfl, Nat.le_of_ble_eq_true rfl⟩) (hnc := ⟨Nat.zero_le _, Nat.zero_le _⟩) (fun r_10 y_10 h_10 => ?_)
      obtain ⟨e_10, ey_10⟩ := h_10
      obtain rfl := ey_10.symm
      refine rm_if_eq (tgt := 42) hc dX6_lockedDoors_35 (by decide) (fun c_11 => ?_) (fun c_11 => ?_)
      · --
        refine rm_iconst (v := 0) hc dX6_lockedDoors_42 (by decide) ?_
        refine rm_iadd hc dX6_lockedDoors_43 (fun v_12 e_12 => ?_)
        obtain rfl : v_12 = 0 := e_12.trans (by decide)
        clear e_12
        refine rm_istore_n (ls' := [(0, .ref (ad k 0 0)), (1, .int 0), (2, .ref (ad k 3 0)), (3, .int 3), (4, .int 2), (5, .ref (ad k 4 2))]) hc dX6_lockedDoors_44 rfl (by decide) rfl ?_
        refine rm_iinc (v := 3) (ls' := [(0, .ref (ad k 0 0)), (1, .int 0), (2, .ref (ad k 3 0)), (3, .int 3), (4, .int 3), (5, .ref (ad k 4 2))]) hc dX6_lockedDoors_45 rfl (by decide) (by decide) rfl ?_
        refine rm_goto (tgt := 13) hc dX6_lockedDoors_48 (by decide) ?_
        refine rm_iload hc dX6_lockedDoors_13 rfl ?_
        refine rm_iload_n hc dX6_lockedDoors_15 rfl rfl ?_
        refine rm_icmp_ge (tgt := 51) hc dX6_lockedDoors_16 (by decide) (fun _ => ?_) (fun h => absurd (by decide) h)
        refine rm_iload_n hc dX6_lockedDoors_51 rfl rfl ?_
        exact rm_iret hc dX6_lockedDoors_52 ⟨sum3_of (b2_0 (e_2.symm.trans c_3)) (b2_0 (e_6.symm.trans c_7)) (b2_0 (e_10.symm.trans c_11)) (by decide), rfl⟩
      · --
        refine rm_iconst (v := 1) hc dX6_lockedDoors_38 (by decide) ?_
        refine rm_goto (tgt := 43) hc dX6_lockedDoors_39 (by decide) ?_
        refine rm_iadd hc dX6_lockedDoors_43 (fun v_14 e_14 => ?_)
        obtain rfl : v_14 = 1 := e_14.trans (by decide)
        clear e_14
        refine rm_istore_n (ls' := [(0, .ref (ad k 0 0)), (1, .int 1), (2, .ref (ad k 3 0)), (3, .int 3), (4, .int 2), (5, .ref (ad k 4 2))]) hc dX6_lockedDoors_44 rfl (by decide) rfl ?_
        refine rm_iinc (v := 3) (ls' := [(0, .ref (ad k 0 0)), (1, .int 1), (2, .ref (ad k 3 0)), (3, .int 3), (4, .int 3), (5, .ref (ad k 4 2))]) hc dX6_lockedDoors_45 rfl (by decide) (by decide) rfl ?_
        refine rm_goto (tgt := 13) hc dX6_lockedDoors_48 (by decide) ?_
        refine rm_iload hc dX6_lockedDoors_13 rfl ?_
        refine rm_iload_n hc dX6_lockedDoors_15 rfl rfl ?_
        refine rm_icmp_ge (tgt := 51) hc dX6_lockedDoors_16 (by decide) (fun _ => ?_) (fun h => absurd (by decide) h)
        refine rm_iload_n hc dX6_lockedDoors_51 rfl rfl ?_
        exact rm_iret hc dX6_lockedDoors_52 ⟨sum3_of (b2_0 (e_2.symm.trans c_3)) (b2_0 (e_6.symm.trans c_7)) (b2_1 (fun h => c_11 (e_10.trans h))) (by decide), rfl⟩
    · --
      refine rm_iconst (v := 1) hc dX6_lockedDoors_38 (by decide) ?_
      refine rm_goto (tgt := 43) hc dX6_lockedDoors_39 (by decide) ?_
      refine rm_iadd hc dX6_lockedDoors_43 (fun v_16 e_16 => ?_)
      obtain rfl : v_16 = 1 := e_16.trans (by decide)
      clear e_16
      refine rm_istore_n (ls' := [(0, .ref (ad k 0 0)), (1, .int 1), (2, .ref (ad k 3 0)), (3, .int 3), (4, .int 1), (5, .ref (ad k 4 1))]) hc dX6_lockedDoors_44 rfl (by decide) rfl ?_
      refine rm_iinc (v := 2) (ls' := [(0, .ref (ad k 0 0)), (1, .int 1), (2, .ref (ad k 3 0)), (3, .int 3), (4, .int 2), (5, .ref (ad k 4 1))]) hc dX6_lockedDoors_45 rfl (by decide) (by decide) rfl ?_
      refine rm_goto (tgt := 13) hc dX6_lockedDoors_48 (by decide) ?_
      refine rm_iload hc dX6_lockedDoors_13 rfl ?_
      refine rm_iload_n hc dX6_lockedDoors_15 rfl rfl ?_
      refine rm_icmp_ge (tgt := 51) hc dX6_lockedDoors_16 (by decide) (fun h => absurd h (by decide)) (fun _ => ?_)
      refine rm_aload_n hc dX6_lockedDoors_19 rfl rfl ?_
      refine rm_iload hc dX6_lockedDoors_20 rfl ?_
      refine rm_aald (t0 := 2) (i := 2) (v := .ref (ad k 4 2)) hc dX6_lockedDoors_22 (dm_3 (by omega)) rfl rfl (by omega) (by decide) rfl rfl ?_
      refine rm_astore (ls' := [(0, .ref (ad k 0 0)), (1, .int 1), (2, .ref (ad k 3 0)), (3, .int 3), (4, .int 2), (5, .ref (ad k 4 2))]) hc dX6_lockedDoors_23 (by decide) rfl ?_
      refine rm_iload_n hc dX6_lockedDoors_25 rfl rfl ?_
      refine rm_aload hc dX6_lockedDoors_26 rfl ?_
      refine rm_aload_n hc dX6_lockedDoors_28 rfl rfl ?_
      refine rm_get hc dX6_lockedDoors_29 fl_X6_37 (dm_0 (by omega)) rfl rfl ?_
      refine rm_calliV (As := [.ref (ad k 8 0)]) (rest := [.int 1]) hc dX6_lockedDoors_32 (c_X1_isLocked hI x (k := k) (d := 2) (k2 := k) (by omega) (by omega) (by omega) (by omega)) mv_X6_111 (dm_4 (by omega) (by omega) (by omega)) rfl rfl (hn := rfl) (hst := rfl) (hw := Nat.le_of_ble_eq_true rfl) (hR := ⟨⟨rfl, rfl⟩, Nat.le_of_ble_eq_true rfl, Nat.le_of_ble_eq_true rfl⟩) (hnc := ⟨Nat.zero_le _, Nat.zero_le _⟩) (fun r_18 y_18 h_18 => ?_)
      obtain ⟨e_18, ey_18⟩ := h_18
      obtain rfl := ey_18.symm
      refine rm_if_eq (tgt := 42) hc dX6_lockedDoors_35 (by decide) (fun c_19 => ?_) (fun c_19 => ?_)
      · --
        refine rm_iconst (v := 0) hc dX6_lockedDoors_42 (by decide) ?_
        refine rm_iadd hc dX6_lockedDoors_43 (fun v_20 e_20 => ?_)
        obtain rfl : v_20 = 1 := e_20.trans (by decide)
        clear e_20
        refine rm_istore_n (ls' := [(0, .ref (ad k 0 0)), (1, .int 1), (2, .ref (ad k 3 0)), (3, .int 3), (4, .int 2), (5, .ref (ad k 4 2))]) hc dX6_lockedDoors_44 rfl (by decide) rfl ?_
        refine rm_iinc (v := 3) (ls' := [(0, .ref (ad k 0 0)), (1, .int 1), (2, .ref (ad k 3 0)), (3, .int 3), (4, .int 3), (5, .ref (ad k 4 2))]) hc dX6_lockedDoors_45 rfl (by decide) (by decide) rfl ?_
        refine rm_goto (tgt := 13) hc dX6_lockedDoors_48 (by decide) ?_
        refine rm_iload hc dX6_lockedDoors_13 rfl ?_
        refine rm_iload_n hc dX6_lockedDoors_15 rfl rfl ?_
        refine rm_icmp_ge (tgt := 51) hc dX6_lockedDoors_16 (by decide) (fun _ => ?_) (fun h => absurd (by decide) h)
        refine rm_iload_n hc dX6_lockedDoors_51 rfl rfl ?_
        exact rm_iret hc dX6_lockedDoors_52 ⟨sum3_of (b2_0 (e_2.symm.trans c_3)) (b2_1 (fun h => c_7 (e_6.trans h))) (b2_0 (e_18.symm.trans c_19)) (by decide), rfl⟩
      · --
        refine rm_iconst (v := 1) hc dX6_lockedDoors_38 (by decide) ?_
        refine rm_goto (tgt := 43) hc dX6_lockedDoors_39 (by decide) ?_
        refine rm_iadd hc dX6_lockedDoors_43 (fun v_22 e_22 => ?_)
        obtain rfl : v_22 = 2 := e_22.trans (by decide)
        clear e_22
        refine rm_istore_n (ls' := [(0, .ref (ad k 0 0)), (1, .int 2), (2, .ref (ad k 3 0)), (3, .int 3), (4, .int 2), (5, .ref (ad k 4 2))]) hc dX6_lockedDoors_44 rfl (by decide) rfl ?_
        refine rm_iinc (v := 3) (ls' := [(0, .ref (ad k 0 0)), (1, .int 2), (2, .ref (ad k 3 0)), (3, .int 3), (4, .int 3), (5, .ref (ad k 4 2))]) hc dX6_lockedDoors_45 rfl (by decide) (by decide) rfl ?_
        refine rm_goto (tgt := 13) hc dX6_lockedDoors_48 (by decide) ?_
        refine rm_iload hc dX6_lockedDoors_13 rfl ?_
        refine rm_iload_n hc dX6_lockedDoors_15 rfl rfl ?_
        refine rm_icmp_ge (tgt := 51) hc dX6_lockedDoors_16 (by decide) (fun _ => ?_) (fun h => absurd (by decide) h)
        refine rm_iload_n hc dX6_lockedDoors_51 rfl rfl ?_
        exact rm_iret hc dX6_lockedDoors_52 ⟨sum3_of (b2_0 (e_2.symm.trans c_3)) (b2_1 (fun h => c_7 (e_6.trans h))) (b2_1 (fun h => c_19 (e_18.trans h))) (by decide), rfl⟩
  · --
    refine rm_iconst (v := 1) hc dX6_lockedDoors_38 (by decide) ?_
    refine rm_goto (tgt := 43) hc dX6_lockedDoors_39 (by decide) ?_
    refine rm_iadd hc dX6_lockedDoors_43 (fun v_24 e_24 => ?_)
    obtain rfl : v_24 = 1 := e_24.trans (by decide)
    clear e_24
    refine rm_istore_n (ls' := [(0, .ref (ad k 0 0)), (1, .int 1), (2, .ref (ad k 3 0)), (3, .int 3), (4, .int 0), (5, .ref (ad k 4 0))]) hc dX6_lockedDoors_44 rfl (by decide) rfl ?_
    refine rm_iinc (v := 1) (ls' := [(0, .ref (ad k 0 0)), (1, .int 1), (2, .ref (ad k 3 0)), (3, .int 3), (4, .int 1), (5, .ref (ad k 4 0))]) hc dX6_lockedDoors_45 rfl (by decide) (by decide) rfl ?_
    refine rm_goto (tgt := 13) hc dX6_lockedDoors_48 (by decide) ?_
    refine rm_iload hc dX6_lockedDoors_13 rfl ?_
    refine rm_iload_n hc dX6_lockedDoors_15 rfl rfl ?_
    refine rm_icmp_ge (tgt := 51) hc dX6_lockedDoors_16 (by decide) (fun h => absurd h (by decide)) (fun _ => ?_)
    refine rm_aload_n hc dX6_lockedDoors_19 rfl rfl ?_
    refine rm_iload hc dX6_lockedDoors_20 rfl ?_
    refine rm_aald (t0 := 2) (i := 1) (v := .ref (ad k 4 1)) hc dX6_lockedDoors_22 (dm_3 (by omega)) rfl rfl (by omega) (by decide) rfl rfl ?_
    refine rm_astore (ls' := [(0, .ref (ad k 0 0)), (1, .int 1), (2, .ref (ad k 3 0)), (3, .int 3), (4, .int 1), (5, .ref (ad k 4 1))]) hc dX6_lockedDoors_23 (by decide) rfl ?_
    refine rm_iload_n hc dX6_lockedDoors_25 rfl rfl ?_
    refine rm_aload hc dX6_lockedDoors_26 rfl ?_
    refine rm_aload_n hc dX6_lockedDoors_28 rfl rfl ?_
    refine rm_get hc dX6_lockedDoors_29 fl_X6_37 (dm_0 (by omega)) rfl rfl ?_
    refine rm_calliV (As := [.ref (ad k 8 0)]) (rest := [.int 1]) hc dX6_lockedDoors_32 (c_X1_isLocked hI x (k := k) (d := 1) (k2 := k) (by omega) (by omega) (by omega) (by omega)) mv_X6_111 (dm_4 (by omega) (by omega) (by omega)) rfl rfl (hn := rfl) (hst := rfl) (hw := Nat.le_of_ble_eq_true rfl) (hR := ⟨⟨rfl, rfl⟩, Nat.le_of_ble_eq_true rfl, Nat.le_of_ble_eq_true rfl⟩) (hnc := ⟨Nat.zero_le _, Nat.zero_le _⟩) (fun r_26 y_26 h_26 => ?_)
    obtain ⟨e_26, ey_26⟩ := h_26
    obtain rfl := ey_26.symm
    refine rm_if_eq (tgt := 42) hc dX6_lockedDoors_35 (by decide) (fun c_27 => ?_) (fun c_27 => ?_)
    · --
      refine rm_iconst (v := 0) hc dX6_lockedDoors_42 (by decide) ?_
      refine rm_iadd hc dX6_lockedDoors_43 (fun v_28 e_28 => ?_)
      obtain rfl : v_28 = 1 := e_28.trans (by decide)
      clear e_28
      refine rm_istore_n (ls' := [(0, .ref (ad k 0 0)), (1, .int 1), (2, .ref (ad k 3 0)), (3, .int 3), (4, .int 1), (5, .ref (ad k 4 1))]) hc dX6_lockedDoors_44 rfl (by decide) rfl ?_
      refine rm_iinc (v := 2) (ls' := [(0, .ref (ad k 0 0)), (1, .int 1), (2, .ref (ad k 3 0)), (3, .int 3), (4, .int 2), (5, .ref (ad k 4 1))]) hc dX6_lockedDoors_45 rfl (by decide) (by decide) rfl ?_
      refine rm_goto (tgt := 13) hc dX6_lockedDoors_48 (by decide) ?_
      refine rm_iload hc dX6_lockedDoors_13 rfl ?_
      refine rm_iload_n hc dX6_lockedDoors_15 rfl rfl ?_
      refine rm_icmp_ge (tgt := 51) hc dX6_lockedDoors_16 (by decide) (fun h => absurd h (by decide)) (fun _ => ?_)
      refine rm_aload_n hc dX6_lockedDoors_19 rfl rfl ?_
      refine rm_iload hc dX6_lockedDoors_20 rfl ?_
      refine rm_aald (t0 := 2) (i := 2) (v := .ref (ad k 4 2)) hc dX6_lockedDoors_22 (dm_3 (by omega)) rfl rfl (by omega) (by decide) rfl rfl ?_
      refine rm_astore (ls' := [(0, .ref (ad k 0 0)), (1, .int 1), (2, .ref (ad k 3 0)), (3, .int 3), (4, .int 2), (5, .ref (ad k 4 2))]) hc dX6_lockedDoors_23 (by decide) rfl ?_
      refine rm_iload_n hc dX6_lockedDoors_25 rfl rfl ?_
      refine rm_aload hc dX6_lockedDoors_26 rfl ?_
      refine rm_aload_n hc dX6_lockedDoors_28 rfl rfl ?_
      refine rm_get hc dX6_lockedDoors_29 fl_X6_37 (dm_0 (by omega)) rfl rfl ?_
      refine rm_calliV (As := [.ref (ad k 8 0)]) (rest := [.int 1]) hc dX6_lockedDoors_32 (c_X1_isLocked hI x (k := k) (d := 2) (k2 := k) (by omega) (by omega) (by omega) (by omega)) mv_X6_111 (dm_4 (by omega) (by omega) (by omega)) rfl rfl (hn := rfl) (hst := rfl) (hw := Nat.le_of_ble_eq_true rfl) (hR := ⟨⟨rfl, rfl⟩, Nat.le_of_ble_eq_true rfl, Nat.le_of_ble_eq_true rfl⟩) (hnc := ⟨Nat.zero_le _, Nat.zero_le _⟩) (fun r_30 y_30 h_30 => ?_)
      obtain ⟨e_30, ey_30⟩ := h_30
      obtain rfl := ey_30.symm
      refine rm_if_eq (tgt := 42) hc dX6_lockedDoors_35 (by decide) (fun c_31 => ?_) (fun c_31 => ?_)
      · --
        refine rm_iconst (v := 0) hc dX6_lockedDoors_42 (by decide) ?_
        refine rm_iadd hc dX6_lockedDoors_43 (fun v_32 e_32 => ?_)
        obtain rfl : v_32 = 1 := e_32.trans (by decide)
        clear e_32
        refine rm_istore_n (ls' := [(0, .ref (ad k 0 0)), (1, .int 1), (2, .ref (ad k 3 0)), (3, .int 3), (4, .int 2), (5, .ref (ad k 4 2))]) hc dX6_lockedDoors_44 rfl (by decide) rfl ?_
        refine rm_iinc (v := 3) (ls' := [(0, .ref (ad k 0 0)), (1, .int 1), (2, .ref (ad k 3 0)), (3, .int 3), (4, .int 3), (5, .ref (ad k 4 2))]) hc dX6_lockedDoors_45 rfl (by decide) (by decide) rfl ?_
        refine rm_goto (tgt := 13) hc dX6_lockedDoors_48 (by decide) ?_
        refine rm_iload hc dX6_lockedDoors_13 rfl ?_
        refine rm_iload_n hc dX6_lockedDoors_15 rfl rfl ?_
        refine rm_icmp_ge (tgt := 51) hc dX6_lockedDoors_16 (by decide) (fun _ => ?_) (fun h => absurd (by decide) h)
        refine rm_iload_n hc dX6_lockedDoors_51 rfl rfl ?_
        exact rm_iret hc dX6_lockedDoors_52 ⟨sum3_of (b2_1 (fun h => c_3 (e_2.trans h))) (b2_0 (e_26.symm.trans c_27)) (b2_0 (e_30.symm.trans c_31)) (by decide), rfl⟩
      · --
        refine rm_iconst (v := 1) hc dX6_lockedDoors_38 (by decide) ?_
        refine rm_goto (tgt := 43) hc dX6_lockedDoors_39 (by decide) ?_
        refine rm_iadd hc dX6_lockedDoors_43 (fun v_34 e_34 => ?_)
        obtain rfl : v_34 = 2 := e_34.trans (by decide)
        clear e_34
        refine rm_istore_n (ls' := [(0, .ref (ad k 0 0)), (1, .int 2), (2, .ref (ad k 3 0)), (3, .int 3), (4, .int 2), (5, .ref (ad k 4 2))]) hc dX6_lockedDoors_44 rfl (by decide) rfl ?_
        refine rm_iinc (v := 3) (ls' := [(0, .ref (ad k 0 0)), (1, .int 2), (2, .ref (ad k 3 0)), (3, .int 3), (4, .int 3), (5, .ref (ad k 4 2))]) hc dX6_lockedDoors_45 rfl (by decide) (by decide) rfl ?_
        refine rm_goto (tgt := 13) hc dX6_lockedDoors_48 (by decide) ?_
        refine rm_iload hc dX6_lockedDoors_13 rfl ?_
        refine rm_iload_n hc dX6_lockedDoors_15 rfl rfl ?_
        refine rm_icmp_ge (tgt := 51) hc dX6_lockedDoors_16 (by decide) (fun _ => ?_) (fun h => absurd (by decide) h)
        refine rm_iload_n hc dX6_lockedDoors_51 rfl rfl ?_
        exact rm_iret hc dX6_lockedDoors_52 ⟨sum3_of (b2_1 (fun h => c_3 (e_2.trans h))) (b2_0 (e_26.symm.trans c_27)) (b2_1 (fun h => c_31 (e_30.trans h))) (by decide), rfl⟩
    · --
      refine rm_iconst (v := 1) hc dX6_lockedDoors_38 (by decide) ?_
      refine rm_goto (tgt := 43) hc dX6_lockedDoors_39 (by decide) ?_
      refine rm_iadd hc dX6_lockedDoors_43 (fun v_36 e_36 => ?_)
      obtain rfl : v_36 = 2 := e_36.trans (by decide)
      clear e_36
      refine rm_istore_n (ls' := [(0, .ref (ad k 0 0)), (1, .int 2), (2, .ref (ad k 3 0)), (3, .int 3), (4, .int 1), (5, .ref (ad k 4 1))]) hc dX6_lockedDoors_44 rfl (by decide) rfl ?_
      refine rm_iinc (v := 2) (ls' := [(0, .ref (ad k 0 0)), (1, .int 2), (2, .ref (ad k 3 0)), (3, .int 3), (4, .int 2), (5, .ref (ad k 4 1))]) hc dX6_lockedDoors_45 rfl (by decide) (by decide) rfl ?_
      refine rm_goto (tgt := 13) hc dX6_lockedDoors_48 (by decide) ?_
      refine rm_iload hc dX6_lockedDoors_13 rfl ?_
      refine rm_iload_n hc dX6_lockedDoors_15 rfl rfl ?_
      refine rm_icmp_ge (tgt := 51) hc dX6_lockedDoors_16 (by decide) (fun h => absurd h (by decide)) (fun _ => ?_)
      refine rm_aload_n hc dX6_lockedDoors_19 rfl rfl ?_
      refine rm_iload hc dX6_lockedDoors_20 rfl ?_
      refine rm_aald (t0 := 2) (i := 2) (v := .ref (ad k 4 2)) hc dX6_lockedDoors_22 (dm_3 (by omega)) rfl rfl (by omega) (by decide) rfl rfl ?_
      refine rm_astore (ls' := [(0, .ref (ad k 0 0)), (1, .int 2), (2, .ref (ad k 3 0)), (3, .int 3), (4, .int 2), (5, .ref (ad k 4 2))]) hc dX6_lockedDoors_23 (by decide) rfl ?_
      refine rm_iload_n hc dX6_lockedDoors_25 rfl rfl ?_
      refine rm_aload hc dX6_lockedDoors_26 rfl ?_
      refine rm_aload_n hc dX6_lockedDoors_28 rfl rfl ?_
      refine rm_get hc dX6_lockedDoors_29 fl_X6_37 (dm_0 (by omega)) rfl rfl ?_
      refine rm_calliV (As := [.ref (ad k 8 0)]) (rest := [.int 2]) hc dX6_lockedDoors_32 (c_X1_isLocked hI x (k := k) (d := 2) (k2 := k) (by omega) (by omega) (by omega) (by omega)) mv_X6_111 (dm_4 (by omega) (by omega) (by omega)) rfl rfl (hn := rfl) (hst := rfl) (hw := Nat.le_of_ble_eq_true rfl) (hR := ⟨⟨rfl, rfl⟩, Nat.le_of_ble_eq_true rfl, Nat.le_of_ble_eq_true rfl⟩) (hnc := ⟨Nat.zero_le _, Nat.zero_le _⟩) (fun r_38 y_38 h_38 => ?_)
      obtain ⟨e_38, ey_38⟩ := h_38
      obtain rfl := ey_38.symm
      refine rm_if_eq (tgt := 42) hc dX6_lockedDoors_35 (by decide) (fun c_39 => ?_) (fun c_39 => ?_)
      · --
        refine rm_iconst (v := 0) hc dX6_lockedDoors_42 (by decide) ?_
        refine rm_iadd hc dX6_lockedDoors_43 (fun v_40 e_40 => ?_)
        obtain rfl : v_40 = 2 := e_40.trans (by decide)
        clear e_40
        refine rm_istore_n (ls' := [(0, .ref (ad k 0 0)), (1, .int 2), (2, .ref (ad k 3 0)), (3, .int 3), (4, .int 2), (5, .ref (ad k 4 2))]) hc dX6_lockedDoors_44 rfl (by decide) rfl ?_
        refine rm_iinc (v := 3) (ls' := [(0, .ref (ad k 0 0)), (1, .int 2), (2, .ref (ad k 3 0)), (3, .int 3), (4, .int 3), (5, .ref (ad k 4 2))]) hc dX6_lockedDoors_45 rfl (by decide) (by decide) rfl ?_
        refine rm_goto (tgt := 13) hc dX6_lockedDoors_48 (by decide) ?_
        refine rm_iload hc dX6_lockedDoors_13 rfl ?_
        refine rm_iload_n hc dX6_lockedDoors_15 rfl rfl ?_
        refine rm_icmp_ge (tgt := 51) hc dX6_lockedDoors_16 (by decide) (fun _ => ?_) (fun h => absurd (by decide) h)
        refine rm_iload_n hc dX6_lockedDoors_51 rfl rfl ?_
        exact rm_iret hc dX6_lockedDoors_52 ⟨sum3_of (b2_1 (fun h => c_3 (e_2.trans h))) (b2_1 (fun h => c_27 (e_26.trans h))) (b2_0 (e_38.symm.trans c_39)) (by decide), rfl⟩
      · --
        refine rm_iconst (v := 1) hc dX6_lockedDoors_38 (by decide) ?_
        refine rm_goto (tgt := 43) hc dX6_lockedDoors_39 (by decide) ?_
        refine rm_iadd hc dX6_lockedDoors_43 (fun v_42 e_42 => ?_)
        obtain rfl : v_42 = 3 := e_42.trans (by decide)
        clear e_42
        refine rm_istore_n (ls' := [(0, .ref (ad k 0 0)), (1, .int 3), (2, .ref (ad k 3 0)), (3, .int 3), (4, .int 2), (5, .ref (ad k 4 2))]) hc dX6_lockedDoors_44 rfl (by decide) rfl ?_
        refine rm_iinc (v := 3) (ls' := [(0, .ref (ad k 0 0)), (1, .int 3), (2, .ref (ad k 3 0)), (3, .int 3), (4, .int 3), (5, .ref (ad k 4 2))]) hc dX6_lockedDoors_45 rfl (by decide) (by decide) rfl ?_
        refine rm_goto (tgt := 13) hc dX6_lockedDoors_48 (by decide) ?_
        refine rm_iload hc dX6_lockedDoors_13 rfl ?_
        refine rm_iload_n hc dX6_lockedDoors_15 rfl rfl ?_
        refine rm_icmp_ge (tgt := 51) hc dX6_lockedDoors_16 (by decide) (fun _ => ?_) (fun h => absurd (by decide) h)
        refine rm_iload_n hc dX6_lockedDoors_51 rfl rfl ?_
        exact rm_iret hc dX6_lockedDoors_52 ⟨sum3_of (b2_1 (fun h => c_3 (e_2.trans h))) (b2_1 (fun h => c_27 (e_26.trans h))) (b2_1 (fun h => c_39 (e_38.trans h))) (by decide), rfl⟩

theorem yk_J9_floorMod_7cf53 : Cond.initialized yJ9_floorMod_7cf53.cls ∈ TB ∧ Cond.code yJ9_floorMod_7cf53 cJ9_floorMod_7cf53 3 (some .int) ∈ TB ∧ (yJ9_floorMod_7cf53.cls ≠ "java/lang/invoke/MethodHandle" ∧ yJ9_floorMod_7cf53.cls ≠ "java/lang/invoke/VarHandle" ∧ (parseMethodDescriptor yJ9_floorMod_7cf53.desc).map (fun d => d.parameters.length) = some 2) := ⟨tbm (i := 51) (by decide +kernel) (by decide +kernel), tbm (i := 519) (by decide +kernel) (by decide +kernel), by decide +kernel⟩
theorem ms_X3_22 : MS RX3 22 yJ9_floorMod_7cf53 cJ9_floorMod_7cf53 3 (some .int) 2 := ⟨⟨tbm (i := 517) (by decide +kernel) (by decide +kernel), yk_J9_floorMod_7cf53⟩, tbm (i := 518) (by decide +kernel) (by decide +kernel)⟩
theorem dJ9_floorMod_7cf53_0 : decode cJ9_floorMod_7cf53 0 = .ok (.iload_n 0, 1) := by decide +kernel
theorem dJ9_floorMod_7cf53_1 : decode cJ9_floorMod_7cf53 1 = .ok (.iload_n 1, 1) := by decide +kernel
theorem dJ9_floorMod_7cf53_2 : decode cJ9_floorMod_7cf53 2 = .ok (.irem, 1) := by decide +kernel
theorem dJ9_floorMod_7cf53_3 : decode cJ9_floorMod_7cf53 3 = .ok (.istore_n 2, 1) := by decide +kernel
theorem dJ9_floorMod_7cf53_4 : decode cJ9_floorMod_7cf53 4 = .ok (.iload_n 0, 1) := by decide +kernel
theorem dJ9_floorMod_7cf53_5 : decode cJ9_floorMod_7cf53 5 = .ok (.iload_n 1, 1) := by decide +kernel
theorem dJ9_floorMod_7cf53_6 : decode cJ9_floorMod_7cf53 6 = .ok (.ixor, 1) := by decide +kernel
theorem dJ9_floorMod_7cf53_7 : decode cJ9_floorMod_7cf53 7 = .ok (.ifCond .ge 11, 3) := by decide +kernel
theorem dJ9_floorMod_7cf53_10 : decode cJ9_floorMod_7cf53 10 = .ok (.iload_n 2, 1) := by decide +kernel
theorem dJ9_floorMod_7cf53_11 : decode cJ9_floorMod_7cf53 11 = .ok (.ifCond .eq 7, 3) := by decide +kernel
theorem dJ9_floorMod_7cf53_14 : decode cJ9_floorMod_7cf53 14 = .ok (.iload_n 2, 1) := by decide +kernel
theorem dJ9_floorMod_7cf53_15 : decode cJ9_floorMod_7cf53 15 = .ok (.iload_n 1, 1) := by decide +kernel
theorem dJ9_floorMod_7cf53_16 : decode cJ9_floorMod_7cf53 16 = .ok (.iadd, 1) := by decide +kernel
theorem dJ9_floorMod_7cf53_17 : decode cJ9_floorMod_7cf53 17 = .ok (.ireturn, 1) := by decide +kernel
theorem dJ9_floorMod_7cf53_18 : decode cJ9_floorMod_7cf53 18 = .ok (.iload_n 2, 1) := by decide +kernel
theorem dJ9_floorMod_7cf53_19 : decode cJ9_floorMod_7cf53 19 = .ok (.ireturn, 1) := by decide +kernel

abbrev rm_J9_floorMod_7cf53 : Room := { frames := 0, cells := 0, slots := 0, locals := 0 }

set_option maxHeartbeats 4000000 in
set_option maxRecDepth 100000 in
theorem c_fmod {l : Launch} {D : va_G} {cy : Nat → ClassId} {ad : Ads} (hI : IJ ad) (x : Mem) {n : Nat} (hn : n < 2 ^ 20) : Cti l yJ9_floorMod_7cf53 cJ9_floorMod_7cf53 3 (some .int) rm_J9_floorMod_7cf53 D cy ad [.int (nI (n)), .int 6] x (fun r y => r = nI (n % 6) ∧ y = x) := by
  refine rm_entryF (Qc := Qi D cy ad (fun r y => r = nI (n % 6) ∧ y = x)) hI (by decide +kernel) (Nat.le_of_ble_eq_true rfl) ?_
  intro p e s m args below meth c hc
  show RM _ _ _ _ _ _ _ _ _ _ _ _ _ _ _ _ _ [(0, .int (nI (n))), (1, .int 6)] []
  refine rm_iload_n hc dJ9_floorMod_7cf53_0 rfl rfl ?_
  refine rm_iload_n hc dJ9_floorMod_7cf53_1 rfl rfl ?_
  refine rm_irem hc dJ9_floorMod_7cf53_2 (by decide) (fun v_1 e_1 => ?_)
  obtain rfl : v_1 = nI (n % 6) := e_1.trans (irem6 hn)
  refine rm_istore_n (ls' := [(0, .int (nI (n))), (1, .int 6), (2, .int (nI (n % 6)))]) hc dJ9_floorMod_7cf53_3 rfl (by decide) rfl ?_
  refine rm_iload_n hc dJ9_floorMod_7cf53_4 rfl rfl ?_
  refine rm_iload_n hc dJ9_floorMod_7cf53_5 rfl rfl ?_
  refine rm_ixor hc dJ9_floorMod_7cf53_6 (fun v_2 e_2 => ?_)
  refine rm_if_ge (tgt := 18) hc dJ9_floorMod_7cf53_7 (by decide) (fun _ => ?_) (fun h => absurd (by rw [e_2]; exact xor6 hn) h)
  refine rm_iload_n hc dJ9_floorMod_7cf53_18 rfl rfl ?_
  exact rm_iret hc dJ9_floorMod_7cf53_19 ⟨rfl, rfl⟩

abbrev rm_X3_keep : Room := { frames := 3, cells := 0, slots := 0, locals := 83 }
set_option maxHeartbeats 4000000 in
set_option maxRecDepth 100000 in
theorem c_X3_keep {l : Launch} {D : va_G} {cy : Nat → ClassId} {ad : Ads} (hI : IJ ad) (x : Mem) {nq : Nat} (hn6 : nq < 6) (hnq : NXT x nq 0) (hF : FLG x 0) : Ctv l yX3_keep cX3_keep 2 none rm_X3_keep D cy ad [.ref (ad 8 10 0), .ref (ad 0 0 0)] x (fun y => y = kpM x nq) := by
  obtain ⟨w, hw20, -, hwq, hw8⟩ := hnq
  have hwq := congrArg nI hwq
  refine rm_entry (Qc := Qv D cy ad (fun y => y = kpM x nq)) hI (by decide) (Nat.le_of_ble_eq_true rfl) ?_
  intro p e s m args below meth c hc
  show RM _ _ _ _ _ _ _ _ _ _ _ _ _ _ _ _ _ [(0, .ref (ad 8 10 0)), (1, .ref (ad 0 0 0))] []
  refine rm_aload_n hc dX3_keep_0 rfl rfl ?_
  refine rm_get hc dX3_keep_1 fl_X3_11 dm_10 rfl rfl ?_
  refine rm_aload_n hc dX3_keep_4 rfl rfl ?_
  refine rm_geti hc dX3_keep_5 fl_X3_18 dm_10 rfl rfl (fun v_1 e_1 => ?_)
  obtain rfl : v_1 = nI w := e_1.trans hw8
  refine rm_bipush (v := 6) hc dX3_keep_8 (by decide) ?_
  refine rm_calliS (As := [.int (nI w), .int 6]) (rest := [.ref (ad 8 11 0)]) hc dX3_keep_10 (c_fmod hI x (n := w) hw20) ms_X3_22 (hn := rfl) (hst := rfl) (hw := Nat.le_of_ble_eq_true rfl) (hR := ⟨⟨rfl, rfl⟩, Nat.le_of_ble_eq_true rfl, Nat.le_of_ble_eq_true rfl⟩) (hnc := ⟨Nat.zero_le _, Nat.zero_le _⟩) (fun r_2 y_2 h_2 => ?_)
  obtain ⟨e_2, ey_2⟩ := h_2
  obtain rfl := ey_2.symm
  obtain rfl : r_2 = nI nq := e_2.trans hwq
  refine rm_aald (t0 := 4) (i := nq) (v := .ref (ad (nq + 1) 0 0)) hc dX3_keep_13 dm_11 rfl rfl (by omega) (by decide) rfl rfl ?_
  refine rm_aload_n hc dX3_keep_14 rfl rfl ?_
  refine rm_callvV (As := [.ref (ad 0 0 0)]) (rest := []) hc dX3_keep_15 (c_X6_copyFrom hI x (k := nq + 1) (k2 := 0) (by omega) (by omega) (by omega) hF) mv_X3_28 (dm_0 (by omega)) rfl rfl (hn := rfl) (hst := rfl) (hw := Nat.le_of_ble_eq_true rfl) (hR := ⟨⟨rfl, rfl⟩, Nat.le_of_ble_eq_true rfl, Nat.le_of_ble_eq_true rfl⟩) (hnc := ⟨Nat.zero_le _, Nat.zero_le _⟩) (fun y_3 h_3 => ?_)
  refine rm_aload_n hc dX3_keep_18 rfl rfl ?_
  refine rm_dup hc dX3_keep_19 rfl ?_
  refine rm_geti hc dX3_keep_20 fl_X3_18 dm_10 rfl rfl (fun v_4 e_4 => ?_)
  replace e_4 : v_4 = x 8 0 := by rw [e_4]; subst_vars; rw [cpS_b (by omega)]
  refine rm_iconst (v := 1) hc dX3_keep_23 (by decide) ?_
  refine rm_iadd hc dX3_keep_24 (fun v_5 e_5 => ?_)
  refine rm_put hc dX3_keep_25 fl_X3_18 dm_10 rfl (Nat.le_of_ble_eq_true rfl) ft_3_1 rfl rfl so_10_1 (rm_nm (fun x_6 ex_6 => ?_))
  refine rm_aload_n hc dX3_keep_28 rfl rfl ?_
  refine rm_aload_n hc dX3_keep_29 rfl rfl ?_
  refine rm_geti hc dX3_keep_30 fl_X3_32 dm_10 rfl rfl (fun v_7 e_7 => ?_)
  replace e_7 : v_7 = x 8 1 := by rw [e_7]; subst_vars; rw [up_n _ _ (by omega), cpS_b (by omega)]
  refine rm_iconst (v := 1) hc dX3_keep_33 (by decide) ?_
  refine rm_iadd hc dX3_keep_34 (fun v_8 e_8 => ?_)
  refine rm_bipush (v := 6) hc dX3_keep_35 (by decide) ?_
  refine rm_min hc dX3_keep_37 kl_min_X3 (Nat.le_of_ble_eq_true rfl) (Nat.le_of_ble_eq_true rfl) ⟨Nat.zero_le _, Nat.zero_le _⟩ (fun v_9 e_9 => ?_)
  refine rm_put hc dX3_keep_40 fl_X3_32 dm_10 rfl (Nat.le_of_ble_eq_true rfl) ft_3_2 rfl rfl so_10_2 (rm_nm (fun x_10 ex_10 => ?_))
  exact rm_vret hc dX3_keep_43 (by subst_vars; rfl)

abbrev rm_X3_restore : Room := { frames := 3, cells := 0, slots := 0, locals := 83 }
set_option maxHeartbeats 4000000 in
set_option maxRecDepth 100000 in
theorem c_X3_restore {l : Launch} {D : va_G} {cy : Nat → ClassId} {ad : Ads} (hI : IJ ad) (x : Mem) {nq hl : Nat} (hn6 : nq < 6) (hnq : NXT x nq 1) (hhl : x 8 1 = nI hl) (hl0 : 0 < hl) (hl6 : hl ≤ 6) (hF : ∀ b, b < 7 → FLG x b) : Ctv l yX3_restore cX3_restore 2 none rm_X3_restore D cy ad [.ref (ad 8 10 0), .ref (ad 0 0 0)] x (fun y => y = rsM x nq) := by
  obtain ⟨w1, hw20, hw1, hwq, hw8⟩ := hnq
  obtain ⟨w, rfl⟩ : ∃ w, w1 = w + 1 := ⟨w1 - 1, by omega⟩
  replace hw20 : w < 2 ^ 20 := by omega
  refine rm_entry (Qc := Qv D cy ad (fun y => y = rsM x nq)) hI (by decide) (Nat.le_of_ble_eq_true rfl) ?_
  intro p e s m args below meth c hc
  show RM _ _ _ _ _ _ _ _ _ _ _ _ _ _ _ _ _ [(0, .ref (ad 8 10 0)), (1, .ref (ad 0 0 0))] []
  refine rm_aload_n hc dX3_restore_0 rfl rfl ?_
  refine rm_geti hc dX3_restore_1 fl_X3_32 dm_10 rfl rfl (fun v_1 e_1 => ?_)
  obtain rfl : v_1 = nI hl := e_1.trans hhl
  refine rm_if_gt (tgt := 8) hc dX3_restore_4 (by decide) (fun _ => ?_) (fun h => absurd ((nI_ltI (a := 0) (b := hl) (by omega) (by omega)).mpr (by omega)) h)
  refine rm_aload_n hc dX3_restore_8 rfl rfl ?_
  refine rm_dup hc dX3_restore_9 rfl ?_
  refine rm_geti hc dX3_restore_10 fl_X3_18 dm_10 rfl rfl (fun v_3 e_3 => ?_)
  refine rm_iconst (v := 1) hc dX3_restore_13 (by decide) ?_
  refine rm_isub hc dX3_restore_14 (fun v_4 e_4 => ?_)
  refine rm_put hc dX3_restore_15 fl_X3_18 dm_10 rfl (Nat.le_of_ble_eq_true rfl) ft_3_1 rfl rfl so_10_1 (rm_nm (fun x_5 ex_5 => ?_))
  refine rm_aload_n hc dX3_restore_18 rfl rfl ?_
  refine rm_dup hc dX3_restore_19 rfl ?_
  refine rm_geti hc dX3_restore_20 fl_X3_32 dm_10 rfl rfl (fun v_6 e_6 => ?_)
  replace e_6 : v_6 = x 8 1 := by rw [e_6]; subst_vars; exact up_n _ _ (by omega)
  refine rm_iconst (v := 1) hc dX3_restore_23 (by decide) ?_
  refine rm_isub hc dX3_restore_24 (fun v_7 e_7 => ?_)
  refine rm_put hc dX3_restore_25 fl_X3_32 dm_10 rfl (Nat.le_of_ble_eq_true rfl) ft_3_2 rfl rfl so_10_2 (rm_nm (fun x_8 ex_8 => ?_))
  refine rm_aload_n hc dX3_restore_28 rfl rfl ?_
  refine rm_aload_n hc dX3_restore_29 rfl rfl ?_
  refine rm_get hc dX3_restore_30 fl_X3_11 dm_10 rfl rfl ?_
  refine rm_aload_n hc dX3_restore_33 rfl rfl ?_
  refine rm_geti hc dX3_restore_34 fl_X3_18 dm_10 rfl rfl (fun v_9 e_9 => ?_)
  obtain rfl : v_9 = nI w := by rw [e_9]; subst_vars; rw [up_n _ _ (by omega), up_s, hw8]; exact pk_sub (a := w + 1) (b := 1) (by omega)
  refine rm_bipush (v := 6) hc dX3_restore_37 (by decide) ?_
  refine rm_calliS (As := [.int (nI w), .int 6]) (rest := [.ref (ad 8 11 0), .ref (ad 0 0 0)]) hc dX3_restore_39 (c_fmod hI x_8 (n := w) hw20) ms_X3_22 (hn := rfl) (hst := rfl) (hw := Nat.le_of_ble_eq_true rfl) (hR := ⟨⟨rfl, rfl⟩, Nat.le_of_ble_eq_true rfl, Nat.le_of_ble_eq_true rfl⟩) (hnc := ⟨Nat.zero_le _, Nat.zero_le _⟩) (fun r_10 y_10 h_10 => ?_)
  obtain ⟨e_10, ey_10⟩ := h_10
  obtain rfl := ey_10.symm
  obtain ⟨qq, hqq⟩ : ∃ qq : Nat, qq = (nq + 5) % 6 := ⟨_, rfl⟩
  obtain rfl : r_10 = nI qq := e_10.trans (congrArg nI (by omega))
  refine rm_aald (t0 := 4) (i := qq) (v := .ref (ad (qq + 1) 0 0)) hc dX3_restore_42 dm_11 rfl rfl (by omega) (by decide) rfl rfl ?_
  refine rm_callvV (As := [.ref (ad (qq + 1) 0 0)]) (rest := []) hc dX3_restore_43 (c_X6_copyFrom hI x_8 (k := 0) (k2 := qq + 1) (by omega) (by omega) (by omega) (by subst_vars; exact FLG_up (by omega) (FLG_up (by omega) (hF _ (by omega))))) mv_X3_28 (dm_0 (by omega)) rfl rfl (hn := rfl) (hst := rfl) (hw := Nat.le_of_ble_eq_true rfl) (hR := ⟨⟨rfl, rfl⟩, Nat.le_of_ble_eq_true rfl, Nat.le_of_ble_eq_true rfl⟩) (hnc := ⟨Nat.zero_le _, Nat.zero_le _⟩) (fun y_11 h_11 => ?_)
  exact rm_vret hc dX3_restore_46 (by subst_vars; rfl)

abbrev rm_X7_expectedInPart : Room := { frames := 0, cells := 0, slots := 0, locals := 0 }
set_option maxHeartbeats 4000000 in
set_option maxRecDepth 100000 in
theorem c_X7_expectedInPart {l : Launch} {D : va_G} {cy : Nat → ClassId} {ad : Ads} (hI : IJ ad) (x : Mem) (a : Int32) : Cti l yX7_expectedInPart cX7_expectedInPart 1 (some .int) rm_X7_expectedInPart D cy ad [.int a] x (fun r y => r = inPartS a ∧ y = x) := by
  refine rm_entry (Qc := Qi D cy ad (fun r y => r = inPartS a ∧ y = x)) hI (by decide) (Nat.le_of_ble_eq_true rfl) ?_
  intro p e s m args below meth c hc
  show RM _ _ _ _ _ _ _ _ _ _ _ _ _ _ _ _ _ [(0, .int a)] []
  refine rm_iload_n hc dX7_expectedInPart_0 rfl rfl ?_
  by_cases z_1 : a = 99
  · --case 99
    subst z_1
    refine rm_lkup (off := 39) (tgt := 40) hc dX7_expectedInPart_1 (by decide) (by decide) (by decide) ?_
    refine rm_iconst (v := 3) hc dX7_expectedInPart_40 (by decide) ?_
    exact rm_iret hc dX7_expectedInPart_41 ⟨by subst_vars; simp [inPartS, *], rfl⟩
  by_cases z_2 : a = 102
  · --case 102
    subst z_2
    refine rm_lkup (off := 35) (tgt := 36) hc dX7_expectedInPart_1 (by decide) (by decide) (by decide) ?_
    refine rm_iconst (v := 1) hc dX7_expectedInPart_36 (by decide) ?_
    exact rm_iret hc dX7_expectedInPart_37 ⟨by subst_vars; simp [inPartS, *], rfl⟩
  by_cases z_3 : a = 114
  · --case 114
    subst z_3
    refine rm_lkup (off := 37) (tgt := 38) hc dX7_expectedInPart_1 (by decide) (by decide) (by decide) ?_
    refine rm_iconst (v := 2) hc dX7_expectedInPart_38 (by decide) ?_
    exact rm_iret hc dX7_expectedInPart_39 ⟨by subst_vars; simp [inPartS, *], rfl⟩
  refine rm_lkup (off := 41) (tgt := 42) hc dX7_expectedInPart_1 (by decide) ((lv_osw (k := 99) z_1 (by decide)).trans ((lv_osw (k := 102) z_2 (by decide)).trans ((lv_osw (k := 114) z_3 (by decide)).trans rfl))) (by decide) ?_
  refine rm_bipush (v := 8) hc dX7_expectedInPart_42 (by decide) ?_
  exact rm_iret hc dX7_expectedInPart_44 ⟨by subst_vars; simp [inPartS, *], rfl⟩

abbrev rm_X7_expectedInSet : Room := { frames := 0, cells := 0, slots := 0, locals := 0 }
set_option maxHeartbeats 4000000 in
set_option maxRecDepth 100000 in
theorem c_X7_expectedInSet {l : Launch} {D : va_G} {cy : Nat → ClassId} {ad : Ads} (hI : IJ ad) (x : Mem) (a b : Int32) : Cti l yX7_expectedInSet cX7_expectedInSet 3 (some .int) rm_X7_expectedInSet D cy ad [.int a, .int b] x (fun r y => r = inSetS a b ∧ y = x) := by
  refine rm_entry (Qc := Qi D cy ad (fun r y => r = inSetS a b ∧ y = x)) hI (by decide) (Nat.le_of_ble_eq_true rfl) ?_
  intro p e s m args below meth c hc
  show RM _ _ _ _ _ _ _ _ _ _ _ _ _ _ _ _ _ [(0, .int a), (1, .int b)] []
  refine rm_iload_n hc dX7_expectedInSet_0 rfl rfl ?_
  refine rm_bipush (v := 48) hc dX7_expectedInSet_1 (by decide) ?_
  refine rm_isub hc dX7_expectedInSet_3 (fun v_1 e_1 => ?_)
  refine rm_istore_n (ls' := [(0, .int a), (1, .int b), (2, .int v_1)]) hc dX7_expectedInSet_4 rfl (by decide) rfl ?_
  refine rm_iload_n hc dX7_expectedInSet_5 rfl rfl ?_
  refine rm_iload_n hc dX7_expectedInSet_6 rfl rfl ?_
  refine rm_icmp_lt (tgt := 21) hc dX7_expectedInSet_7 (by decide) (fun c_2 => ?_) (fun c_2 => ?_)
  · --T
    refine rm_bipush (v := 8) hc dX7_expectedInSet_21 (by decide) ?_
    exact rm_iret hc dX7_expectedInSet_23 ⟨by subst_vars; simp [inSetS, *], rfl⟩
  · --F
    refine rm_iload_n hc dX7_expectedInSet_10 rfl rfl ?_
    refine rm_iconst (v := 3) hc dX7_expectedInSet_11 (by decide) ?_
    refine rm_icmp_ge (tgt := 21) hc dX7_expectedInSet_12 (by decide) (fun c_3 => ?_) (fun c_3 => ?_)
    · --T
      refine rm_bipush (v := 8) hc dX7_expectedInSet_21 (by decide) ?_
      exact rm_iret hc dX7_expectedInSet_23 ⟨by subst_vars; simp [inSetS, *], rfl⟩
    · --F
      refine rm_iconst (v := 5) hc dX7_expectedInSet_15 (by decide) ?_
      refine rm_iload_n hc dX7_expectedInSet_16 rfl rfl ?_
      refine rm_iadd hc dX7_expectedInSet_17 (fun v_4 e_4 => ?_)
      refine rm_goto (tgt := 23) hc dX7_expectedInSet_18 (by decide) ?_
      exact rm_iret hc dX7_expectedInSet_23 ⟨by subst_vars; simp [inSetS, *], rfl⟩

abbrev rm_X7_expectedBehind : Room := { frames := 1, cells := 0, slots := 0, locals := 22 }
set_option maxHeartbeats 4000000 in
set_option maxRecDepth 100000 in
theorem c_X7_expectedBehind {l : Launch} {D : va_G} {cy : Nat → ClassId} {ad : Ads} (hI : IJ ad) (x : Mem) (a b : Int32) : Cti l yX7_expectedBehind cX7_expectedBehind 2 (some .int) rm_X7_expectedBehind D cy ad [.int a, .int b] x (fun r y => r = expS a b ∧ y = x) := by
  refine rm_entry (Qc := Qi D cy ad (fun r y => r = expS a b ∧ y = x)) hI (by decide) (Nat.le_of_ble_eq_true rfl) ?_
  intro p e s m args below meth c hc
  show RM _ _ _ _ _ _ _ _ _ _ _ _ _ _ _ _ _ [(0, .int a), (1, .int b)] []
  refine rm_iload_n hc dX7_expectedBehind_0 rfl rfl ?_
  by_cases z_1 : a = 0
  · --case 0
    subst z_1
    refine rm_tin (off := 51) (tgt := 52) hc dX7_expectedBehind_1 (by decide) (by decide) (by decide) (by decide) ?_
    refine rm_iload_n hc dX7_expectedBehind_52 rfl rfl ?_
    refine rm_calliS (As := [.int b]) (rest := []) hc dX7_expectedBehind_53 (c_X7_expectedInPart hI x b) ms_X7_30 (hn := rfl) (hst := rfl) (hw := Nat.le_of_ble_eq_true rfl) (hR := ⟨⟨rfl, rfl⟩, Nat.le_of_ble_eq_true rfl, Nat.le_of_ble_eq_true rfl⟩) (hnc := ⟨Nat.zero_le _, Nat.zero_le _⟩) (fun r_2 y_2 h_2 => ?_)
    obtain ⟨e_2, ey_2⟩ := h_2
    obtain rfl := ey_2.symm
    exact rm_iret hc dX7_expectedBehind_56 ⟨by subst_vars; simp [expS, *], rfl⟩
  by_cases z_3 : a = 1
  · --case 1
    subst z_3
    refine rm_tin (off := 56) (tgt := 57) hc dX7_expectedBehind_1 (by decide) (by decide) (by decide) (by decide) ?_
    refine rm_iload_n hc dX7_expectedBehind_57 rfl rfl ?_
    refine rm_bipush (v := 48) hc dX7_expectedBehind_58 (by decide) ?_
    refine rm_icmp_lt (tgt := 73) hc dX7_expectedBehind_60 (by decide) (fun c_4 => ?_) (fun c_4 => ?_)
    · --T
      refine rm_bipush (v := 8) hc dX7_expectedBehind_73 (by decide) ?_
      exact rm_iret hc dX7_expectedBehind_75 ⟨by subst_vars; simp [expS, *], rfl⟩
    · --F
      refine rm_iload_n hc dX7_expectedBehind_63 rfl rfl ?_
      refine rm_bipush (v := 51) hc dX7_expectedBehind_64 (by decide) ?_
      refine rm_icmp_gt (tgt := 73) hc dX7_expectedBehind_66 (by decide) (fun c_5 => ?_) (fun c_5 => ?_)
      · --T
        refine rm_bipush (v := 8) hc dX7_expectedBehind_73 (by decide) ?_
        exact rm_iret hc dX7_expectedBehind_75 ⟨by subst_vars; simp [expS, *], rfl⟩
      · --F
        refine rm_iconst (v := 4) hc dX7_expectedBehind_69 (by decide) ?_
        refine rm_goto (tgt := 75) hc dX7_expectedBehind_70 (by decide) ?_
        exact rm_iret hc dX7_expectedBehind_75 ⟨by subst_vars; simp [expS, *], rfl⟩
  by_cases z_6 : a = 2
  · --case 2
    subst z_6
    refine rm_tin (off := 75) (tgt := 76) hc dX7_expectedBehind_1 (by decide) (by decide) (by decide) (by decide) ?_
    refine rm_iload_n hc dX7_expectedBehind_76 rfl rfl ?_
    refine rm_bipush (v := 48) hc dX7_expectedBehind_77 (by decide) ?_
    refine rm_icmp_lt (tgt := 92) hc dX7_expectedBehind_79 (by decide) (fun c_7 => ?_) (fun c_7 => ?_)
    · --T
      refine rm_bipush (v := 8) hc dX7_expectedBehind_92 (by decide) ?_
      exact rm_iret hc dX7_expectedBehind_94 ⟨by subst_vars; simp [expS, *], rfl⟩
    · --F
      refine rm_iload_n hc dX7_expectedBehind_82 rfl rfl ?_
      refine rm_bipush (v := 55) hc dX7_expectedBehind_83 (by decide) ?_
      refine rm_icmp_gt (tgt := 92) hc dX7_expectedBehind_85 (by decide) (fun c_8 => ?_) (fun c_8 => ?_)
      · --T
        refine rm_bipush (v := 8) hc dX7_expectedBehind_92 (by decide) ?_
        exact rm_iret hc dX7_expectedBehind_94 ⟨by subst_vars; simp [expS, *], rfl⟩
      · --F
        refine rm_iconst (v := 4) hc dX7_expectedBehind_88 (by decide) ?_
        refine rm_goto (tgt := 94) hc dX7_expectedBehind_89 (by decide) ?_
        exact rm_iret hc dX7_expectedBehind_94 ⟨by subst_vars; simp [expS, *], rfl⟩
  by_cases z_9 : a = 3
  · --case 3
    subst z_9
    refine rm_tin (off := 94) (tgt := 95) hc dX7_expectedBehind_1 (by decide) (by decide) (by decide) (by decide) ?_
    refine rm_iload_n hc dX7_expectedBehind_95 rfl rfl ?_
    refine rm_bipush (v := 48) hc dX7_expectedBehind_96 (by decide) ?_
    refine rm_icmp_lt (tgt := 112) hc dX7_expectedBehind_98 (by decide) (fun c_10 => ?_) (fun c_10 => ?_)
    · --T
      refine rm_bipush (v := 8) hc dX7_expectedBehind_112 (by decide) ?_
      exact rm_iret hc dX7_expectedBehind_114 ⟨by subst_vars; simp [expS, *], rfl⟩
    · --F
      refine rm_iload_n hc dX7_expectedBehind_101 rfl rfl ?_
      refine rm_bipush (v := 50) hc dX7_expectedBehind_102 (by decide) ?_
      refine rm_icmp_gt (tgt := 112) hc dX7_expectedBehind_104 (by decide) (fun c_11 => ?_) (fun c_11 => ?_)
      · --T
        refine rm_bipush (v := 8) hc dX7_expectedBehind_112 (by decide) ?_
        exact rm_iret hc dX7_expectedBehind_114 ⟨by subst_vars; simp [expS, *], rfl⟩
      · --F
        refine rm_bipush (v := 7) hc dX7_expectedBehind_107 (by decide) ?_
        refine rm_goto (tgt := 114) hc dX7_expectedBehind_109 (by decide) ?_
        exact rm_iret hc dX7_expectedBehind_114 ⟨by subst_vars; simp [expS, *], rfl⟩
  by_cases z_12 : a = 4
  · --case 4
    subst z_12
    refine rm_tin (off := 114) (tgt := 115) hc dX7_expectedBehind_1 (by decide) (by decide) (by decide) (by decide) ?_
    refine rm_iload_n hc dX7_expectedBehind_115 rfl rfl ?_
    refine rm_bipush (v := 45) hc dX7_expectedBehind_116 (by decide) ?_
    refine rm_icmp_ne (tgt := 126) hc dX7_expectedBehind_118 (by decide) (fun c_13 => ?_) (fun c_13 => ?_)
    · --T
      refine rm_iload_n hc dX7_expectedBehind_126 rfl rfl ?_
      refine rm_iconst (v := 0) hc dX7_expectedBehind_127 (by decide) ?_
      refine rm_calliS (As := [.int b, .int 0]) (rest := []) hc dX7_expectedBehind_128 (c_X7_expectedInSet hI x b 0) ms_X7_33 (hn := rfl) (hst := rfl) (hw := Nat.le_of_ble_eq_true rfl) (hR := ⟨⟨rfl, rfl⟩, Nat.le_of_ble_eq_true rfl, Nat.le_of_ble_eq_true rfl⟩) (hnc := ⟨Nat.zero_le _, Nat.zero_le _⟩) (fun r_14 y_14 h_14 => ?_)
      obtain ⟨e_14, ey_14⟩ := h_14
      obtain rfl := ey_14.symm
      exact rm_iret hc dX7_expectedBehind_131 ⟨by subst_vars; simp [expS, *], rfl⟩
    · --F
      refine rm_bipush (v := 7) hc dX7_expectedBehind_121 (by decide) ?_
      refine rm_goto (tgt := 131) hc dX7_expectedBehind_123 (by decide) ?_
      exact rm_iret hc dX7_expectedBehind_131 ⟨by subst_vars; simp [expS, *], rfl⟩
  by_cases z_15 : a = 5
  · --case 5
    subst z_15
    refine rm_tin (off := 134) (tgt := 135) hc dX7_expectedBehind_1 (by decide) (by decide) (by decide) (by decide) ?_
    refine rm_iload_n hc dX7_expectedBehind_135 rfl rfl ?_
    refine rm_bipush (v := 59) hc dX7_expectedBehind_136 (by decide) ?_
    refine rm_icmp_ne (tgt := 145) hc dX7_expectedBehind_138 (by decide) (fun c_16 => ?_) (fun c_16 => ?_)
    · --T
      refine rm_iload_n hc dX7_expectedBehind_145 rfl rfl ?_
      refine rm_iload_n hc dX7_expectedBehind_146 rfl rfl ?_
      refine rm_iconst (v := 5) hc dX7_expectedBehind_147 (by decide) ?_
      refine rm_isub hc dX7_expectedBehind_148 (fun v_17 e_17 => ?_)
      obtain rfl : v_17 = 0 := e_17.trans (by decide)
      clear e_17
      refine rm_iconst (v := 1) hc dX7_expectedBehind_149 (by decide) ?_
      refine rm_iadd hc dX7_expectedBehind_150 (fun v_18 e_18 => ?_)
      obtain rfl : v_18 = 1 := e_18.trans (by decide)
      clear e_18
      refine rm_calliS (As := [.int b, .int 1]) (rest := []) hc dX7_expectedBehind_151 (c_X7_expectedInSet hI x b 1) ms_X7_33 (hn := rfl) (hst := rfl) (hw := Nat.le_of_ble_eq_true rfl) (hR := ⟨⟨rfl, rfl⟩, Nat.le_of_ble_eq_true rfl, Nat.le_of_ble_eq_true rfl⟩) (hnc := ⟨Nat.zero_le _, Nat.zero_le _⟩) (fun r_19 y_19 h_19 => ?_)
      obtain ⟨e_19, ey_19⟩ := h_19
      obtain rfl := ey_19.symm
      exact rm_iret hc dX7_expectedBehind_154 ⟨by subst_vars; simp [expS, *], rfl⟩
    · --F
      refine rm_iconst (v := 0) hc dX7_expectedBehind_141 (by decide) ?_
      refine rm_goto (tgt := 154) hc dX7_expectedBehind_142 (by decide) ?_
      exact rm_iret hc dX7_expectedBehind_154 ⟨by subst_vars; simp [expS, *], rfl⟩
  by_cases z_20 : a = 6
  · --case 6
    subst z_20
    refine rm_tin (off := 134) (tgt := 135) hc dX7_expectedBehind_1 (by decide) (by decide) (by decide) (by decide) ?_
    refine rm_iload_n hc dX7_expectedBehind_135 rfl rfl ?_
    refine rm_bipush (v := 59) hc dX7_expectedBehind_136 (by decide) ?_
    refine rm_icmp_ne (tgt := 145) hc dX7_expectedBehind_138 (by decide) (fun c_21 => ?_) (fun c_21 => ?_)
    · --T
      refine rm_iload_n hc dX7_expectedBehind_145 rfl rfl ?_
      refine rm_iload_n hc dX7_expectedBehind_146 rfl rfl ?_
      refine rm_iconst (v := 5) hc dX7_expectedBehind_147 (by decide) ?_
      refine rm_isub hc dX7_expectedBehind_148 (fun v_22 e_22 => ?_)
      obtain rfl : v_22 = 1 := e_22.trans (by decide)
      clear e_22
      refine rm_iconst (v := 1) hc dX7_expectedBehind_149 (by decide) ?_
      refine rm_iadd hc dX7_expectedBehind_150 (fun v_23 e_23 => ?_)
      obtain rfl : v_23 = 2 := e_23.trans (by decide)
      clear e_23
      refine rm_calliS (As := [.int b, .int 2]) (rest := []) hc dX7_expectedBehind_151 (c_X7_expectedInSet hI x b 2) ms_X7_33 (hn := rfl) (hst := rfl) (hw := Nat.le_of_ble_eq_true rfl) (hR := ⟨⟨rfl, rfl⟩, Nat.le_of_ble_eq_true rfl, Nat.le_of_ble_eq_true rfl⟩) (hnc := ⟨Nat.zero_le _, Nat.zero_le _⟩) (fun r_24 y_24 h_24 => ?_)
      obtain ⟨e_24, ey_24⟩ := h_24
      obtain rfl := ey_24.symm
      exact rm_iret hc dX7_expectedBehind_154 ⟨by subst_vars; simp [expS, *], rfl⟩
    · --F
      refine rm_iconst (v := 0) hc dX7_expectedBehind_141 (by decide) ?_
      refine rm_goto (tgt := 154) hc dX7_expectedBehind_142 (by decide) ?_
      exact rm_iret hc dX7_expectedBehind_154 ⟨by subst_vars; simp [expS, *], rfl⟩
  by_cases z_25 : a = 7
  · --case 7
    subst z_25
    refine rm_tin (off := 134) (tgt := 135) hc dX7_expectedBehind_1 (by decide) (by decide) (by decide) (by decide) ?_
    refine rm_iload_n hc dX7_expectedBehind_135 rfl rfl ?_
    refine rm_bipush (v := 59) hc dX7_expectedBehind_136 (by decide) ?_
    refine rm_icmp_ne (tgt := 145) hc dX7_expectedBehind_138 (by decide) (fun c_26 => ?_) (fun c_26 => ?_)
    · --T
      refine rm_iload_n hc dX7_expectedBehind_145 rfl rfl ?_
      refine rm_iload_n hc dX7_expectedBehind_146 rfl rfl ?_
      refine rm_iconst (v := 5) hc dX7_expectedBehind_147 (by decide) ?_
      refine rm_isub hc dX7_expectedBehind_148 (fun v_27 e_27 => ?_)
      obtain rfl : v_27 = 2 := e_27.trans (by decide)
      clear e_27
      refine rm_iconst (v := 1) hc dX7_expectedBehind_149 (by decide) ?_
      refine rm_iadd hc dX7_expectedBehind_150 (fun v_28 e_28 => ?_)
      obtain rfl : v_28 = 3 := e_28.trans (by decide)
      clear e_28
      refine rm_calliS (As := [.int b, .int 3]) (rest := []) hc dX7_expectedBehind_151 (c_X7_expectedInSet hI x b 3) ms_X7_33 (hn := rfl) (hst := rfl) (hw := Nat.le_of_ble_eq_true rfl) (hR := ⟨⟨rfl, rfl⟩, Nat.le_of_ble_eq_true rfl, Nat.le_of_ble_eq_true rfl⟩) (hnc := ⟨Nat.zero_le _, Nat.zero_le _⟩) (fun r_29 y_29 h_29 => ?_)
      obtain ⟨e_29, ey_29⟩ := h_29
      obtain rfl := ey_29.symm
      exact rm_iret hc dX7_expectedBehind_154 ⟨by subst_vars; simp [expS, *], rfl⟩
    · --F
      refine rm_iconst (v := 0) hc dX7_expectedBehind_141 (by decide) ?_
      refine rm_goto (tgt := 154) hc dX7_expectedBehind_142 (by decide) ?_
      exact rm_iret hc dX7_expectedBehind_154 ⟨by subst_vars; simp [expS, *], rfl⟩
  by_cases z_30 : a = 8
  · --case 8
    subst z_30
    refine rm_tin (off := 131) (tgt := 132) hc dX7_expectedBehind_1 (by decide) (by decide) (by decide) (by decide) ?_
    refine rm_bipush (v := 8) hc dX7_expectedBehind_132 (by decide) ?_
    exact rm_iret hc dX7_expectedBehind_134 ⟨by subst_vars; simp [expS, *], rfl⟩
  refine rm_tout (tgt := 135) hc dX7_expectedBehind_1 (by have zz0 := lv_neT (k := 0) (a := 0) z_1 (by decide); have zz1 := lv_neT (k := 1) (a := 1) z_3 (by decide); have zz2 := lv_neT (k := 2) (a := 2) z_6 (by decide); have zz3 := lv_neT (k := 3) (a := 3) z_9 (by decide); have zz4 := lv_neT (k := 4) (a := 4) z_12 (by decide); have zz5 := lv_neT (k := 5) (a := 5) z_15 (by decide); have zz6 := lv_neT (k := 6) (a := 6) z_20 (by decide); have zz7 := lv_neT (k := 7) (a := 7) z_25 (by decide); have zz8 := lv_neT (k := 8) (a := 8) z_30 (by decide); omega) (by decide) ?_
  refine rm_iload_n hc dX7_expectedBehind_135 rfl rfl ?_
  refine rm_bipush (v := 59) hc dX7_expectedBehind_136 (by decide) ?_
  refine rm_icmp_ne (tgt := 145) hc dX7_expectedBehind_138 (by decide) (fun c_31 => ?_) (fun c_31 => ?_)
  · --T
    refine rm_iload_n hc dX7_expectedBehind_145 rfl rfl ?_
    refine rm_iload_n hc dX7_expectedBehind_146 rfl rfl ?_
    refine rm_iconst (v := 5) hc dX7_expectedBehind_147 (by decide) ?_
    refine rm_isub hc dX7_expectedBehind_148 (fun v_32 e_32 => ?_)
    refine rm_iconst (v := 1) hc dX7_expectedBehind_149 (by decide) ?_
    refine rm_iadd hc dX7_expectedBehind_150 (fun v_33 e_33 => ?_)
    refine rm_calliS (As := [.int b, .int v_33]) (rest := []) hc dX7_expectedBehind_151 (c_X7_expectedInSet hI x b v_33) ms_X7_33 (hn := rfl) (hst := rfl) (hw := Nat.le_of_ble_eq_true rfl) (hR := ⟨⟨rfl, rfl⟩, Nat.le_of_ble_eq_true rfl, Nat.le_of_ble_eq_true rfl⟩) (hnc := ⟨Nat.zero_le _, Nat.zero_le _⟩) (fun r_34 y_34 h_34 => ?_)
    obtain ⟨e_34, ey_34⟩ := h_34
    obtain rfl := ey_34.symm
    exact rm_iret hc dX7_expectedBehind_154 ⟨by subst_vars; simp [expS, *], rfl⟩
  · --F
    refine rm_iconst (v := 0) hc dX7_expectedBehind_141 (by decide) ?_
    refine rm_goto (tgt := 154) hc dX7_expectedBehind_142 (by decide) ?_
    exact rm_iret hc dX7_expectedBehind_154 ⟨by subst_vars; simp [expS, *], rfl⟩

abbrev rm_X7_code : Room := { frames := 0, cells := 0, slots := 0, locals := 0 }
set_option maxHeartbeats 4000000 in
set_option maxRecDepth 100000 in
theorem c_X7_code {l : Launch} {D : va_G} {cy : Nat → ClassId} {ad : Ads} (hI : IJ ad) (x : Mem) (a : Int32) : Cti l yX7_code cX7_code 2 (some .int) rm_X7_code D cy ad [.ref (ad 8 12 0), .int a] x (fun r y => r = codeS x a ∧ y = x) := by
  refine rm_entry (Qc := Qi D cy ad (fun r y => r = codeS x a ∧ y = x)) hI (by decide) (Nat.le_of_ble_eq_true rfl) ?_
  intro p e s m args below meth c hc
  show RM _ _ _ _ _ _ _ _ _ _ _ _ _ _ _ _ _ [(0, .ref (ad 8 12 0)), (1, .int a)] []
  refine rm_iload_n hc dX7_code_0 rfl rfl ?_
  refine rm_if_lt (tgt := 27) hc dX7_code_1 (by decide) (fun c_1 => ?_) (fun c_1 => ?_)
  · --T
    refine rm_iconst (v := -1) hc dX7_code_27 (by decide) ?_
    exact rm_iret hc dX7_code_28 ⟨by subst_vars; simp [codeS, *]; try (rw [nI_clamp (by omega)]), rfl⟩
  · --F
    refine rm_iload_n hc dX7_code_4 rfl rfl ?_
    refine rm_aload_n hc dX7_code_5 rfl rfl ?_
    refine rm_geti hc dX7_code_6 fl_X7_15 dm_12 rfl rfl (fun v_2 e_2 => ?_)
    refine rm_icmp_ge (tgt := 27) hc dX7_code_9 (by decide) (fun c_3 => ?_) (fun c_3 => ?_)
    · --T
      refine rm_iconst (v := -1) hc dX7_code_27 (by decide) ?_
      exact rm_iret hc dX7_code_28 ⟨by subst_vars; simp [codeS, *]; try (rw [nI_clamp (by omega)]), rfl⟩
    · --F
      refine rm_iload_n hc dX7_code_12 rfl rfl ?_
      refine rm_bipush (v := 60) hc dX7_code_13 (by decide) ?_
      refine rm_icmp_ge (tgt := 27) hc dX7_code_15 (by decide) (fun c_4 => ?_) (fun c_4 => ?_)
      · --T
        refine rm_iconst (v := -1) hc dX7_code_27 (by decide) ?_
        exact rm_iret hc dX7_code_28 ⟨by subst_vars; simp [codeS, *]; try (rw [nI_clamp (by omega)]), rfl⟩
      · --F
        refine rm_aload_n hc dX7_code_18 rfl rfl ?_
        refine rm_get hc dX7_code_19 fl_X7_9 dm_12 rfl rfl ?_
        refine rm_iload_n hc dX7_code_22 rfl rfl ?_
        obtain ⟨i_5, hi_5, rfl⟩ := irng (n := 60) (mm := 60) rfl (by decide) c_1 c_4
        refine rm_iald (i := i_5) hc dX7_code_23 dm_13 rfl (by omega) (by decide) rfl (fun v_6 e_6 => ?_)
        refine rm_goto (tgt := 28) hc dX7_code_24 (by decide) ?_
        exact rm_iret hc dX7_code_28 ⟨by subst_vars; simp [codeS, *]; try (rw [nI_clamp (by omega)]), rfl⟩

abbrev rm_X7_digit : Room := { frames := 1, cells := 0, slots := 0, locals := 21 }
set_option maxHeartbeats 4000000 in
set_option maxRecDepth 100000 in
theorem c_X7_digit {l : Launch} {D : va_G} {cy : Nat → ClassId} {ad : Ads} (hI : IJ ad) (x : Mem) (a : Int32) : Cti l yX7_digit cX7_digit 3 (some .int) rm_X7_digit D cy ad [.ref (ad 8 12 0), .int a] x (fun r y => r = digS x a ∧ y = x) := by
  refine rm_entry (Qc := Qi D cy ad (fun r y => r = digS x a ∧ y = x)) hI (by decide) (Nat.le_of_ble_eq_true rfl) ?_
  intro p e s m args below meth c hc
  show RM _ _ _ _ _ _ _ _ _ _ _ _ _ _ _ _ _ [(0, .ref (ad 8 12 0)), (1, .int a)] []
  refine rm_aload_n hc dX7_digit_0 rfl rfl ?_
  refine rm_iload_n hc dX7_digit_1 rfl rfl ?_
  refine rm_calliV (As := [.int a]) (rest := []) hc dX7_digit_2 (c_X7_code hI x a) mv_X7_19 dm_12 rfl rfl (hn := rfl) (hst := rfl) (hw := Nat.le_of_ble_eq_true rfl) (hR := ⟨⟨rfl, rfl⟩, Nat.le_of_ble_eq_true rfl, Nat.le_of_ble_eq_true rfl⟩) (hnc := ⟨Nat.zero_le _, Nat.zero_le _⟩) (fun r_1 y_1 h_1 => ?_)
  obtain ⟨e_1, ey_1⟩ := h_1
  obtain rfl := ey_1.symm
  refine rm_istore_n (ls' := [(0, .ref (ad 8 12 0)), (1, .int a), (2, .int r_1)]) hc dX7_digit_5 rfl (by decide) rfl ?_
  refine rm_iload_n hc dX7_digit_6 rfl rfl ?_
  refine rm_bipush (v := 48) hc dX7_digit_7 (by decide) ?_
  refine rm_icmp_lt (tgt := 25) hc dX7_digit_9 (by decide) (fun c_2 => ?_) (fun c_2 => ?_)
  · --T
    refine rm_iconst (v := -1) hc dX7_digit_25 (by decide) ?_
    exact rm_iret hc dX7_digit_26 ⟨by subst_vars; simp [digS, *], rfl⟩
  · --F
    refine rm_iload_n hc dX7_digit_12 rfl rfl ?_
    refine rm_bipush (v := 57) hc dX7_digit_13 (by decide) ?_
    refine rm_icmp_gt (tgt := 25) hc dX7_digit_15 (by decide) (fun c_3 => ?_) (fun c_3 => ?_)
    · --T
      refine rm_iconst (v := -1) hc dX7_digit_25 (by decide) ?_
      exact rm_iret hc dX7_digit_26 ⟨by subst_vars; simp [digS, *], rfl⟩
    · --F
      refine rm_iload_n hc dX7_digit_18 rfl rfl ?_
      refine rm_bipush (v := 48) hc dX7_digit_19 (by decide) ?_
      refine rm_isub hc dX7_digit_21 (fun v_4 e_4 => ?_)
      refine rm_goto (tgt := 26) hc dX7_digit_22 (by decide) ?_
      exact rm_iret hc dX7_digit_26 ⟨by subst_vars; simp [digS, *], rfl⟩

abbrev rm_X7_add : Room := { frames := 0, cells := 0, slots := 0, locals := 0 }
set_option maxHeartbeats 4000000 in
set_option maxRecDepth 100000 in
theorem c_X7_add {l : Launch} {D : va_G} {cy : Nat → ClassId} {ad : Ads} (hI : IJ ad) (x : Mem) {tl : Nat} (htl : x 8 2 = nI tl) (ht6 : tl < 60) (a : Int32) : Ctv l yX7_add cX7_add 2 none rm_X7_add D cy ad [.ref (ad 8 12 0), .int a] x (fun y => y = up (up x 9 tl a) 8 2 (nI (tl + 1))) := by
  refine rm_entry (Qc := Qv D cy ad (fun y => y = up (up x 9 tl a) 8 2 (nI (tl + 1)))) hI (by decide) (Nat.le_of_ble_eq_true rfl) ?_
  intro p e s m args below meth c hc
  show RM _ _ _ _ _ _ _ _ _ _ _ _ _ _ _ _ _ [(0, .ref (ad 8 12 0)), (1, .int a)] []
  refine rm_aload_n hc dX7_add_0 rfl rfl ?_
  refine rm_geti hc dX7_add_1 fl_X7_15 dm_12 rfl rfl (fun v_1 e_1 => ?_)
  obtain rfl : v_1 = nI tl := e_1.trans htl
  refine rm_if_lt (tgt := 36) hc dX7_add_4 (by decide) (fun h => absurd h (fun h2 => absurd ((nI_ltI (a := tl) (b := 0) (by omega) (by omega)).mp h2) (by omega))) (fun _ => ?_)
  refine rm_aload_n hc dX7_add_7 rfl rfl ?_
  refine rm_geti hc dX7_add_8 fl_X7_15 dm_12 rfl rfl (fun v_3 e_3 => ?_)
  obtain rfl : v_3 = nI tl := e_3.trans htl
  refine rm_bipush (v := 60) hc dX7_add_11 (by decide) ?_
  refine rm_icmp_ge (tgt := 36) hc dX7_add_13 (by decide) (fun h => absurd h (fun h2 => absurd ((nI_leI (a := 60) (b := tl) (by omega) (by omega)).mp h2) (by omega))) (fun _ => ?_)
  refine rm_aload_n hc dX7_add_16 rfl rfl ?_
  refine rm_get hc dX7_add_17 fl_X7_9 dm_12 rfl rfl ?_
  refine rm_aload_n hc dX7_add_20 rfl rfl ?_
  refine rm_geti hc dX7_add_21 fl_X7_15 dm_12 rfl rfl (fun v_5 e_5 => ?_)
  obtain rfl : v_5 = nI tl := e_5.trans htl
  refine rm_iload_n hc dX7_add_24 rfl rfl ?_
  refine rm_iast (i := tl) hc dX7_add_25 dm_13 rfl (by omega) (by decide) rfl so_13 (rm_nm (fun x_6 ex_6 => ?_))
  refine rm_aload_n hc dX7_add_26 rfl rfl ?_
  refine rm_dup hc dX7_add_27 rfl ?_
  refine rm_geti hc dX7_add_28 fl_X7_15 dm_12 rfl rfl (fun v_7 e_7 => ?_)
  obtain rfl : v_7 = nI tl := by rw [e_7]; subst_vars; rw [up_b _ _ _ (by omega)]; exact htl
  refine rm_iconst (v := 1) hc dX7_add_31 (by decide) ?_
  refine rm_iadd hc dX7_add_32 (fun v_8 e_8 => ?_)
  obtain rfl : v_8 = (nI (tl + 1)) := e_8.trans (nadd (m := tl) (n := 1) (by omega))
  clear e_8
  refine rm_put hc dX7_add_33 fl_X7_15 dm_12 rfl (Nat.le_of_ble_eq_true rfl) ft_7_1 rfl rfl so_12_1 (rm_nm (fun x_9 ex_9 => ?_))
  exact rm_vret hc dX7_add_36 (by subst_vars; rfl)

abbrev rm_X7_goodLength : Room := { frames := 2, cells := 0, slots := 0, locals := 43 }
set_option maxHeartbeats 4000000 in
set_option maxRecDepth 100000 in
theorem c_X7_goodLength {l : Launch} {D : va_G} {cy : Nat → ClassId} {ad : Ads} (hI : IJ ad) (x : Mem) {tl : Nat} (htl : x 8 2 = nI tl) (ht6 : tl ≤ 60) : Cti l yX7_goodLength cX7_goodLength 3 (some .int) rm_X7_goodLength D cy ad [.ref (ad 8 12 0)] x (fun r y => r = nI (glS x tl 0 0) ∧ y = x) := by
  refine rm_entry (Qc := Qi D cy ad (fun r y => r = nI (glS x tl 0 0) ∧ y = x)) hI (by decide) (Nat.le_of_ble_eq_true rfl) ?_
  intro p e s m args below meth c hc
  show RM _ _ _ _ _ _ _ _ _ _ _ _ _ _ _ _ _ [(0, .ref (ad 8 12 0))] []
  refine rm_iconst (v := 0) hc dX7_goodLength_0 (by decide) ?_
  refine rm_istore_n (ls' := [(0, .ref (ad 8 12 0)), (1, .int 0)]) hc dX7_goodLength_1 rfl (by decide) rfl ?_
  refine rm_iconst (v := 0) hc dX7_goodLength_2 (by decide) ?_
  refine rm_istore_n (ls' := [(0, .ref (ad 8 12 0)), (1, .int 0), (2, .int 0)]) hc dX7_goodLength_3 rfl (by decide) rfl ?_
  have key4 : ∀ (f : Nat) (i : Nat) (ee : Int32), i + f = tl → glS x f ee i = glS x tl 0 0 → RM p l e rm_X7_goodLength s m args below meth c 3 (AA ad s.heap.size) (GG D cy ad x) 0 0 (QQ (Qi D cy ad (fun r y => r = nI (glS x tl 0 0) ∧ y = x)) below args s ad) 4 [(0, .ref (ad 8 12 0)), (1, .int ee), (2, .int (nI (i)))] [] := by
    intro f
    induction f with
    | zero =>
      intro i ee hif hst
      refine rm_iload_n hc dX7_goodLength_4 rfl rfl ?_
      refine rm_aload_n hc dX7_goodLength_5 rfl rfl ?_
      refine rm_geti hc dX7_goodLength_6 fl_X7_15 dm_12 rfl rfl (fun v_1 e_1 => ?_)
      obtain rfl : v_1 = nI tl := e_1.trans htl
      refine rm_icmp_ge (tgt := 36) hc dX7_goodLength_9 (by decide) (fun _ => ?_) (fun h => absurd ((nI_leI (a := tl) (b := i) (by omega) (by omega)).mpr (by omega)) h)
      refine rm_aload_n hc dX7_goodLength_36 rfl rfl ?_
      refine rm_geti hc dX7_goodLength_37 fl_X7_15 dm_12 rfl rfl (fun v_3 e_3 => ?_)
      obtain rfl : v_3 = nI tl := e_3.trans htl
      exact rm_iret hc dX7_goodLength_40 ⟨by rw [← hst, show i = tl by omega]; rfl, rfl⟩
    | succ f ih =>
      intro i ee hif hst
      refine rm_iload_n hc dX7_goodLength_4 rfl rfl ?_
      refine rm_aload_n hc dX7_goodLength_5 rfl rfl ?_
      refine rm_geti hc dX7_goodLength_6 fl_X7_15 dm_12 rfl rfl (fun v_4 e_4 => ?_)
      obtain rfl : v_4 = nI tl := e_4.trans htl
      refine rm_icmp_ge (tgt := 36) hc dX7_goodLength_9 (by decide) (fun h => absurd h (fun h2 => absurd ((nI_leI (a := tl) (b := i) (by omega) (by omega)).mp h2) (by omega))) (fun _ => ?_)
      refine rm_iload_n hc dX7_goodLength_12 rfl rfl ?_
      refine rm_aload_n hc dX7_goodLength_13 rfl rfl ?_
      refine rm_iload_n hc dX7_goodLength_14 rfl rfl ?_
      refine rm_calliV (As := [.int (nI (i))]) (rest := [.int ee]) hc dX7_goodLength_15 (c_X7_code hI x (nI (i))) mv_X7_19 dm_12 rfl rfl (hn := rfl) (hst := rfl) (hw := Nat.le_of_ble_eq_true rfl) (hR := ⟨⟨rfl, rfl⟩, Nat.le_of_ble_eq_true rfl, Nat.le_of_ble_eq_true rfl⟩) (hnc := ⟨Nat.zero_le _, Nat.zero_le _⟩) (fun r_6 y_6 h_6 => ?_)
      obtain ⟨e_6, ey_6⟩ := h_6
      obtain rfl := ey_6.symm
      refine rm_calliS (As := [.int ee, .int r_6]) (rest := []) hc dX7_goodLength_18 (c_X7_expectedBehind hI x ee r_6) ms_X7_23 (hn := rfl) (hst := rfl) (hw := Nat.le_of_ble_eq_true rfl) (hR := ⟨⟨rfl, rfl⟩, Nat.le_of_ble_eq_true rfl, Nat.le_of_ble_eq_true rfl⟩) (hnc := ⟨Nat.zero_le _, Nat.zero_le _⟩) (fun r_7 y_7 h_7 => ?_)
      obtain ⟨e_7, ey_7⟩ := h_7
      obtain rfl := ey_7.symm
      refine rm_istore_n (ls' := [(0, .ref (ad 8 12 0)), (1, .int r_7), (2, .int (nI (i)))]) hc dX7_goodLength_21 rfl (by decide) rfl ?_
      refine rm_iload_n hc dX7_goodLength_22 rfl rfl ?_
      refine rm_bipush (v := 8) hc dX7_goodLength_23 (by decide) ?_
      refine rm_icmp_ne (tgt := 30) hc dX7_goodLength_25 (by decide) (fun c_8 => ?_) (fun c_8 => ?_)
      · --T
        refine rm_iinc (v := (nI (i + 1))) (ls' := [(0, .ref (ad 8 12 0)), (1, .int r_7), (2, .int (nI (i + 1)))]) hc dX7_goodLength_30 rfl (nIj (by omega)) (by decide) rfl ?_
        refine rm_goto (tgt := 4) hc dX7_goodLength_33 (by decide) ?_
        exact ih (i + 1) _ (by omega) (by rw [← hst, glS_n (by subst_vars; assumption)]; subst_vars; rfl)
      · --F
        refine rm_iload_n hc dX7_goodLength_28 rfl rfl ?_
        exact rm_iret hc dX7_goodLength_29 ⟨by rw [← hst, glS_y (by first | (subst_vars; assumption) | (symm; subst_vars; assumption))], rfl⟩
  exact key4 tl 0 0 (by omega) rfl

abbrev rm_X7_isComplete : Room := { frames := 2, cells := 0, slots := 0, locals := 43 }
set_option maxHeartbeats 4000000 in
set_option maxRecDepth 100000 in
theorem c_X7_isComplete {l : Launch} {D : va_G} {cy : Nat → ClassId} {ad : Ads} (hI : IJ ad) (x : Mem) {tl : Nat} (htl : x 8 2 = nI tl) (ht6 : tl ≤ 60) : Cti l yX7_isComplete cX7_isComplete 3 (some .boolean) rm_X7_isComplete D cy ad [.ref (ad 8 12 0)] x (fun r y => r = compS (feS x tl 0 0) ∧ y = x) := by
  refine rm_entry (Qc := Qi D cy ad (fun r y => r = compS (feS x tl 0 0) ∧ y = x)) hI (by decide) (Nat.le_of_ble_eq_true rfl) ?_
  intro p e s m args below meth c hc
  show RM _ _ _ _ _ _ _ _ _ _ _ _ _ _ _ _ _ [(0, .ref (ad 8 12 0))] []
  refine rm_iconst (v := 0) hc dX7_isComplete_0 (by decide) ?_
  refine rm_istore_n (ls' := [(0, .ref (ad 8 12 0)), (1, .int 0)]) hc dX7_isComplete_1 rfl (by decide) rfl ?_
  refine rm_iconst (v := 0) hc dX7_isComplete_2 (by decide) ?_
  refine rm_istore_n (ls' := [(0, .ref (ad 8 12 0)), (1, .int 0), (2, .int 0)]) hc dX7_isComplete_3 rfl (by decide) rfl ?_
  have key4 : ∀ (f : Nat) (i : Nat) (ee : Int32), i + f = tl → feS x f ee i = feS x tl 0 0 → RM p l e rm_X7_isComplete s m args below meth c 3 (AA ad s.heap.size) (GG D cy ad x) 0 0 (QQ (Qi D cy ad (fun r y => r = compS (feS x tl 0 0) ∧ y = x)) below args s ad) 4 [(0, .ref (ad 8 12 0)), (1, .int ee), (2, .int (nI (i)))] [] := by
    intro f
    induction f with
    | zero =>
      intro i ee hif hst
      refine rm_iload_n hc dX7_isComplete_4 rfl rfl ?_
      refine rm_aload_n hc dX7_isComplete_5 rfl rfl ?_
      refine rm_geti hc dX7_isComplete_6 fl_X7_15 dm_12 rfl rfl (fun v_1 e_1 => ?_)
      obtain rfl : v_1 = nI tl := e_1.trans htl
      refine rm_icmp_ge (tgt := 28) hc dX7_isComplete_9 (by decide) (fun _ => ?_) (fun h => absurd ((nI_leI (a := tl) (b := i) (by omega) (by omega)).mpr (by omega)) h)
      refine rm_iload_n hc dX7_isComplete_28 rfl rfl ?_
      refine rm_iconst (v := 5) hc dX7_isComplete_29 (by decide) ?_
      refine rm_icmp_lt (tgt := 43) hc dX7_isComplete_30 (by decide) (fun c_3 => ?_) (fun c_3 => ?_)
      · --T
        refine rm_iconst (v := 0) hc dX7_isComplete_43 (by decide) ?_
        exact rm_zret hc dX7_isComplete_44 rfl ⟨by rw [← hst]; simp [feS, compS, *], rfl⟩
      · --F
        refine rm_iload_n hc dX7_isComplete_33 rfl rfl ?_
        refine rm_bipush (v := 7) hc dX7_isComplete_34 (by decide) ?_
        refine rm_icmp_gt (tgt := 43) hc dX7_isComplete_36 (by decide) (fun c_4 => ?_) (fun c_4 => ?_)
        · --T
          refine rm_iconst (v := 0) hc dX7_isComplete_43 (by decide) ?_
          exact rm_zret hc dX7_isComplete_44 rfl ⟨by rw [← hst]; simp [feS, compS, *], rfl⟩
        · --F
          refine rm_iconst (v := 1) hc dX7_isComplete_39 (by decide) ?_
          refine rm_goto (tgt := 44) hc dX7_isComplete_40 (by decide) ?_
          exact rm_zret hc dX7_isComplete_44 rfl ⟨by rw [← hst]; simp [feS, compS, *], rfl⟩
    | succ f ih =>
      intro i ee hif hst
      refine rm_iload_n hc dX7_isComplete_4 rfl rfl ?_
      refine rm_aload_n hc dX7_isComplete_5 rfl rfl ?_
      refine rm_geti hc dX7_isComplete_6 fl_X7_15 dm_12 rfl rfl (fun v_5 e_5 => ?_)
      obtain rfl : v_5 = nI tl := e_5.trans htl
      refine rm_icmp_ge (tgt := 28) hc dX7_isComplete_9 (by decide) (fun h => absurd h (fun h2 => absurd ((nI_leI (a := tl) (b := i) (by omega) (by omega)).mp h2) (by omega))) (fun _ => ?_)
      refine rm_iload_n hc dX7_isComplete_12 rfl rfl ?_
      refine rm_aload_n hc dX7_isComplete_13 rfl rfl ?_
      refine rm_iload_n hc dX7_isComplete_14 rfl rfl ?_
      refine rm_calliV (As := [.int (nI (i))]) (rest := [.int ee]) hc dX7_isComplete_15 (c_X7_code hI x (nI (i))) mv_X7_19 dm_12 rfl rfl (hn := rfl) (hst := rfl) (hw := Nat.le_of_ble_eq_true rfl) (hR := ⟨⟨rfl, rfl⟩, Nat.le_of_ble_eq_true rfl, Nat.le_of_ble_eq_true rfl⟩) (hnc := ⟨Nat.zero_le _, Nat.zero_le _⟩) (fun r_7 y_7 h_7 => ?_)
      obtain ⟨e_7, ey_7⟩ := h_7
      obtain rfl := ey_7.symm
      refine rm_calliS (As := [.int ee, .int r_7]) (rest := []) hc dX7_isComplete_18 (c_X7_expectedBehind hI x ee r_7) ms_X7_23 (hn := rfl) (hst := rfl) (hw := Nat.le_of_ble_eq_true rfl) (hR := ⟨⟨rfl, rfl⟩, Nat.le_of_ble_eq_true rfl, Nat.le_of_ble_eq_true rfl⟩) (hnc := ⟨Nat.zero_le _, Nat.zero_le _⟩) (fun r_8 y_8 h_8 => ?_)
      obtain ⟨e_8, ey_8⟩ := h_8
      obtain rfl := ey_8.symm
      refine rm_istore_n (ls' := [(0, .ref (ad 8 12 0)), (1, .int r_8), (2, .int (nI (i)))]) hc dX7_isComplete_21 rfl (by decide) rfl ?_
      refine rm_iinc (v := (nI (i + 1))) (ls' := [(0, .ref (ad 8 12 0)), (1, .int r_8), (2, .int (nI (i + 1)))]) hc dX7_isComplete_22 rfl (nIj (by omega)) (by decide) rfl ?_
      refine rm_goto (tgt := 4) hc dX7_isComplete_25 (by decide) ?_
      exact ih (i + 1) _ (by omega) (by rw [← hst]; subst_vars; rfl)
  exact key4 tl 0 0 (by omega) rfl

abbrev rm_X7_endsPart : Room := { frames := 1, cells := 0, slots := 0, locals := 21 }
set_option maxHeartbeats 4000000 in
set_option maxRecDepth 100000 in
theorem c_X7_endsPart {l : Launch} {D : va_G} {cy : Nat → ClassId} {ad : Ads} (hI : IJ ad) (x : Mem) (a : Int32) : Cti l yX7_endsPart cX7_endsPart 2 (some .boolean) rm_X7_endsPart D cy ad [.ref (ad 8 12 0), .int a] x (fun r y => r = endS x a ∧ y = x) := by
  refine rm_entry (Qc := Qi D cy ad (fun r y => r = endS x a ∧ y = x)) hI (by decide) (Nat.le_of_ble_eq_true rfl) ?_
  intro p e s m args below meth c hc
  show RM _ _ _ _ _ _ _ _ _ _ _ _ _ _ _ _ _ [(0, .ref (ad 8 12 0)), (1, .int a)] []
  refine rm_iload_n hc dX7_endsPart_0 rfl rfl ?_
  refine rm_aload_n hc dX7_endsPart_1 rfl rfl ?_
  refine rm_geti hc dX7_endsPart_2 fl_X7_15 dm_12 rfl rfl (fun v_1 e_1 => ?_)
  refine rm_icmp_eq (tgt := 18) hc dX7_endsPart_5 (by decide) (fun c_2 => ?_) (fun c_2 => ?_)
  · --T
    refine rm_iconst (v := 1) hc dX7_endsPart_18 (by decide) ?_
    refine rm_goto (tgt := 23) hc dX7_endsPart_19 (by decide) ?_
    exact rm_zret hc dX7_endsPart_23 rfl ⟨by subst_vars; simp_all [endS], rfl⟩
  · --F
    refine rm_aload_n hc dX7_endsPart_8 rfl rfl ?_
    refine rm_iload_n hc dX7_endsPart_9 rfl rfl ?_
    refine rm_calliV (As := [.int a]) (rest := []) hc dX7_endsPart_10 (c_X7_code hI x a) mv_X7_19 dm_12 rfl rfl (hn := rfl) (hst := rfl) (hw := Nat.le_of_ble_eq_true rfl) (hR := ⟨⟨rfl, rfl⟩, Nat.le_of_ble_eq_true rfl, Nat.le_of_ble_eq_true rfl⟩) (hnc := ⟨Nat.zero_le _, Nat.zero_le _⟩) (fun r_3 y_3 h_3 => ?_)
    obtain ⟨e_3, ey_3⟩ := h_3
    obtain rfl := ey_3.symm
    refine rm_bipush (v := 59) hc dX7_endsPart_13 (by decide) ?_
    refine rm_icmp_ne (tgt := 22) hc dX7_endsPart_15 (by decide) (fun c_4 => ?_) (fun c_4 => ?_)
    · --T
      refine rm_iconst (v := 0) hc dX7_endsPart_22 (by decide) ?_
      exact rm_zret hc dX7_endsPart_23 rfl ⟨by subst_vars; simp_all [endS], rfl⟩
    · --F
      refine rm_iconst (v := 1) hc dX7_endsPart_18 (by decide) ?_
      refine rm_goto (tgt := 23) hc dX7_endsPart_19 (by decide) ?_
      exact rm_zret hc dX7_endsPart_23 rfl ⟨by subst_vars; simp_all [endS], rfl⟩

abbrev rm_X7_mask : Room := { frames := 2, cells := 0, slots := 0, locals := 43 }
set_option maxHeartbeats 4000000 in
set_option maxRecDepth 100000 in
theorem c_X7_mask {l : Launch} {D : va_G} {cy : Nat → ClassId} {ad : Ads} (hI : IJ ad) (x : Mem) {aa bb : Nat} (hab : aa ≤ bb) (hb6 : bb < 2 ^ 20) : Cti l yX7_mask cX7_mask 6 (some .int) rm_X7_mask D cy ad [.ref (ad 8 12 0), .int (nI (aa)), .int (nI (bb))] x (fun r y => r = mkS x (bb - aa) aa 0 ∧ y = x) := by
  refine rm_entry (Qc := Qi D cy ad (fun r y => r = mkS x (bb - aa) aa 0 ∧ y = x)) hI (by decide) (Nat.le_of_ble_eq_true rfl) ?_
  intro p e s m args below meth c hc
  show RM _ _ _ _ _ _ _ _ _ _ _ _ _ _ _ _ _ [(0, .ref (ad 8 12 0)), (1, .int (nI (aa))), (2, .int (nI (bb)))] []
  refine rm_iconst (v := 0) hc dX7_mask_0 (by decide) ?_
  refine rm_istore_n (ls' := [(0, .ref (ad 8 12 0)), (1, .int (nI (aa))), (2, .int (nI (bb))), (3, .int 0)]) hc dX7_mask_1 rfl (by decide) rfl ?_
  refine rm_iload_n hc dX7_mask_2 rfl rfl ?_
  refine rm_istore (ls' := [(0, .ref (ad 8 12 0)), (1, .int (nI (aa))), (2, .int (nI (bb))), (3, .int 0), (4, .int (nI (aa)))]) hc dX7_mask_3 (by decide) rfl ?_
  have key5 : ∀ (f : Nat) (i : Nat) (ac : Int32), i + f = bb → mkS x f i ac = mkS x (bb - aa) aa 0 → RM p l e rm_X7_mask s m args below meth c 6 (AA ad s.heap.size) (GG D cy ad x) 0 0 (QQ (Qi D cy ad (fun r y => r = mkS x (bb - aa) aa 0 ∧ y = x)) below args s ad) 5 [(0, .ref (ad 8 12 0)), (1, .int (nI (aa))), (2, .int (nI (bb))), (3, .int ac), (4, .int (nI (i)))] [] := by
    intro f
    induction f with
    | zero =>
      intro i ac hif hst
      refine rm_iload hc dX7_mask_5 rfl ?_
      refine rm_iload_n hc dX7_mask_7 rfl rfl ?_
      refine rm_icmp_ge (tgt := 43) hc dX7_mask_8 (by decide) (fun _ => ?_) (fun h => absurd ((nI_leI (a := bb) (b := i) (by omega) (by omega)).mpr (by omega)) h)
      refine rm_iload_n hc dX7_mask_43 rfl rfl ?_
      exact rm_iret hc dX7_mask_44 ⟨by rw [← hst]; rfl, rfl⟩
    | succ f ih =>
      intro i ac hif hst
      refine rm_iload hc dX7_mask_5 rfl ?_
      refine rm_iload_n hc dX7_mask_7 rfl rfl ?_
      refine rm_icmp_ge (tgt := 43) hc dX7_mask_8 (by decide) (fun h => absurd h (fun h2 => absurd ((nI_leI (a := bb) (b := i) (by omega) (by omega)).mp h2) (by omega))) (fun _ => ?_)
      refine rm_aload_n hc dX7_mask_11 rfl rfl ?_
      refine rm_iload hc dX7_mask_12 rfl ?_
      refine rm_calliV (As := [.int (nI (i))]) (rest := []) hc dX7_mask_14 (c_X7_digit hI x (nI (i))) mv_X7_27 dm_12 rfl rfl (hn := rfl) (hst := rfl) (hw := Nat.le_of_ble_eq_true rfl) (hR := ⟨⟨rfl, rfl⟩, Nat.le_of_ble_eq_true rfl, Nat.le_of_ble_eq_true rfl⟩) (hnc := ⟨Nat.zero_le _, Nat.zero_le _⟩) (fun r_3 y_3 h_3 => ?_)
      obtain ⟨e_3, ey_3⟩ := h_3
      obtain rfl := ey_3.symm
      refine rm_istore (ls' := [(0, .ref (ad 8 12 0)), (1, .int (nI (aa))), (2, .int (nI (bb))), (3, .int ac), (4, .int (nI (i))), (5, .int r_3)]) hc dX7_mask_17 (by decide) rfl ?_
      refine rm_iload hc dX7_mask_19 rfl ?_
      refine rm_if_lt (tgt := 37) hc dX7_mask_21 (by decide) (fun c_4 => ?_) (fun c_4 => ?_)
      · --T
        refine rm_iinc (v := (nI (i + 1))) (ls' := [(0, .ref (ad 8 12 0)), (1, .int (nI (aa))), (2, .int (nI (bb))), (3, .int ac), (4, .int (nI (i + 1))), (5, .int r_3)]) hc dX7_mask_37 rfl (nIj (by omega)) (by decide) rfl ?_
        refine rm_goto (tgt := 5) hc dX7_mask_40 (by decide) ?_
        refine rm_sub [0, 1, 2, 3, 4] rfl ?_
        exact ih (i + 1) _ (by omega) (by rw [← hst]; subst_vars; first | (rw [mk_1 (by assumption)]) | (rw [mk_2 (by assumption) (by assumption)]) | (rw [mk_3 (by assumption) (by assumption)]))
      · --F
        refine rm_iload hc dX7_mask_24 rfl ?_
        refine rm_iconst (v := 3) hc dX7_mask_26 (by decide) ?_
        refine rm_icmp_ge (tgt := 37) hc dX7_mask_27 (by decide) (fun c_5 => ?_) (fun c_5 => ?_)
        · --T
          refine rm_iinc (v := (nI (i + 1))) (ls' := [(0, .ref (ad 8 12 0)), (1, .int (nI (aa))), (2, .int (nI (bb))), (3, .int ac), (4, .int (nI (i + 1))), (5, .int r_3)]) hc dX7_mask_37 rfl (nIj (by omega)) (by decide) rfl ?_
          refine rm_goto (tgt := 5) hc dX7_mask_40 (by decide) ?_
          refine rm_sub [0, 1, 2, 3, 4] rfl ?_
          exact ih (i + 1) _ (by omega) (by rw [← hst]; subst_vars; first | (rw [mk_1 (by assumption)]) | (rw [mk_2 (by assumption) (by assumption)]) | (rw [mk_3 (by assumption) (by assumption)]))
        · --F
          refine rm_iload_n hc dX7_mask_30 rfl rfl ?_
          refine rm_iconst (v := 1) hc dX7_mask_31 (by decide) ?_
          refine rm_iload hc dX7_mask_32 rfl ?_
          refine rm_ishl hc dX7_mask_34 (fun v_6 e_6 => ?_)
          refine rm_ior hc dX7_mask_35 (fun v_7 e_7 => ?_)
          refine rm_istore_n (ls' := [(0, .ref (ad 8 12 0)), (1, .int (nI (aa))), (2, .int (nI (bb))), (3, .int v_7), (4, .int (nI (i))), (5, .int r_3)]) hc dX7_mask_36 rfl (by decide) rfl ?_
          refine rm_iinc (v := (nI (i + 1))) (ls' := [(0, .ref (ad 8 12 0)), (1, .int (nI (aa))), (2, .int (nI (bb))), (3, .int v_7), (4, .int (nI (i + 1))), (5, .int r_3)]) hc dX7_mask_37 rfl (nIj (by omega)) (by decide) rfl ?_
          refine rm_goto (tgt := 5) hc dX7_mask_40 (by decide) ?_
          refine rm_sub [0, 1, 2, 3, 4] rfl ?_
          exact ih (i + 1) _ (by omega) (by rw [← hst]; subst_vars; first | (rw [mk_1 (by assumption)]) | (rw [mk_2 (by assumption) (by assumption)]) | (rw [mk_3 (by assumption) (by assumption)]))
  exact key5 (bb - aa) aa 0 (by omega) rfl

abbrev rm_X6_send : Room := { frames := 3, cells := 0, slots := 0, locals := 72 }
set_option maxHeartbeats 4000000 in
set_option maxRecDepth 100000 in
theorem c_X6_send {l : Launch} {D : va_G} {cy : Nat → ClassId} {ad : Ads} (hI : IJ ad) (x : Mem) {k : Nat} (hk : k < 7) (num msk : Int32) (mm : Nat) (hmm : mm < 2 ^ 30) (hw : x k 1 = nI mm) : Cti l yX6_send cX6_send 6 (some .int) rm_X6_send D cy ad [.ref (ad k 0 0), .int num, .int msk] x (fun r y => r = (sendS x k msk num mm 3).1 ∧ y = (sendS x k msk num mm 3).2) := by
  refine rm_entry (Qc := Qi D cy ad (fun r y => r = (sendS x k msk num mm 3).1 ∧ y = (sendS x k msk num mm 3).2)) hI (by decide) (Nat.le_of_ble_eq_true rfl) ?_
  intro p e s m args below meth c hc
  show RM _ _ _ _ _ _ _ _ _ _ _ _ _ _ _ _ _ [(0, .ref (ad k 0 0)), (1, .int num), (2, .int msk)] []
  refine rm_iconst (v := 0) hc dX6_send_0 (by decide) ?_
  refine rm_istore_n (ls' := [(0, .ref (ad k 0 0)), (1, .int num), (2, .int msk), (3, .int 0)]) hc dX6_send_1 rfl (by decide) rfl ?_
  refine rm_iconst (v := 0) hc dX6_send_2 (by decide) ?_
  refine rm_istore (ls' := [(0, .ref (ad k 0 0)), (1, .int num), (2, .int msk), (3, .int 0), (4, .int 0)]) hc dX6_send_3 (by decide) rfl ?_
  skip
  have hs0 : sendS x k msk num mm 0 = (0, x) := rfl
  refine rm_iload hc dX6_send_5 rfl ?_
  refine rm_iconst (v := 3) hc dX6_send_7 (by decide) ?_
  refine rm_icmp_ge (tgt := 64) hc dX6_send_8 (by decide) (fun h => absurd h (by decide)) (fun _ => ?_)
  refine rm_iload_n hc dX6_send_11 rfl rfl ?_
  refine rm_iload hc dX6_send_12 rfl ?_
  refine rm_ishr hc dX6_send_14 (fun v_2 e_2 => ?_)
  refine rm_iconst (v := 1) hc dX6_send_15 (by decide) ?_
  refine rm_iand hc dX6_send_16 (fun v_3 e_3 => ?_)
  refine rm_iconst (v := 1) hc dX6_send_17 (by decide) ?_
  by_cases hb_4 : (msk >>> (nI 0 &&& 31)) &&& 1 = 1
  · --bit 1
    refine rm_icmp_ne (tgt := 25) hc dX6_send_18 (by decide) (fun h => absurd (by rw [e_3, e_2]; exact hb_4) h) (fun _ => ?_)
    refine rm_iconst (v := 1) hc dX6_send_21 (by decide) ?_
    refine rm_goto (tgt := 26) hc dX6_send_22 (by decide) ?_
    refine rm_istore (ls' := [(0, .ref (ad k 0 0)), (1, .int num), (2, .int msk), (3, .int 0), (4, .int 0), (5, .int 1)]) hc dX6_send_26 (by decide) rfl ?_
    refine rm_iload hc dX6_send_28 rfl ?_
    refine rm_if_eq (tgt := 58) hc dX6_send_30 (by decide) (fun h => absurd h (by decide)) (fun _ => ?_)
    refine rm_aload_n hc dX6_send_33 rfl rfl ?_
    refine rm_get hc dX6_send_34 fl_X6_22 (dm_0 (by omega)) rfl rfl ?_
    refine rm_iload hc dX6_send_37 rfl ?_
    refine rm_aald (t0 := 2) (i := 0) (v := .ref (ad k 4 0)) hc dX6_send_39 (dm_3 (by omega)) rfl rfl (by omega) (by decide) rfl rfl ?_
    refine rm_iload_n hc dX6_send_40 rfl rfl ?_
    refine rm_aload_n hc dX6_send_41 rfl rfl ?_
    refine rm_get hc dX6_send_42 fl_X6_37 (dm_0 (by omega)) rfl rfl ?_
    refine rm_calliV (As := [.int num, .ref (ad k 8 0)]) (rest := []) hc dX6_send_45 (c_X1_hear hI x (k := k) (d := 0) (k2 := k) (by omega) (by omega) (by omega) (by omega) num _ mm (by omega) (by have h5 := sendS_lo (x := x) (k := k) (msk := msk) (num := num) (mm := mm) (n := 1) (by omega) 0; rw [hs0] at h5; exact h5.trans hw) rfl) mv_X6_94 (dm_4 (by omega) (by omega) (by omega)) rfl rfl (hn := rfl) (hst := rfl) (hw := Nat.le_of_ble_eq_true rfl) (hR := ⟨⟨rfl, rfl⟩, Nat.le_of_ble_eq_true rfl, Nat.le_of_ble_eq_true rfl⟩) (hnc := ⟨Nat.zero_le _, Nat.zero_le _⟩) (fun r_6 y_6 h_6 => ?_)
    obtain ⟨e_6, ey_6⟩ := h_6
    refine rm_if_ne (tgt := 58) hc dX6_send_48 (by decide) (fun c_7 => ?_) (fun c_7 => ?_)
    · --
      refine rm_iinc (v := 1) (ls' := [(0, .ref (ad k 0 0)), (1, .int num), (2, .int msk), (3, .int 0), (4, .int 1), (5, .int 1)]) hc dX6_send_58 rfl (by decide) (by decide) rfl ?_
      refine rm_goto (tgt := 5) hc dX6_send_61 (by decide) ?_
      have hs1 : sendS x k msk num mm 1 = (0, y_6) := by rw [sendS_y hb_4, hs0]; rw [if_neg (fun h => c_7 (e_6.trans h)), ← ey_6]
      refine rm_sub [0, 1, 2, 3, 4] rfl ?_
      refine rm_iload hc dX6_send_5 rfl ?_
      refine rm_iconst (v := 3) hc dX6_send_7 (by decide) ?_
      refine rm_icmp_ge (tgt := 64) hc dX6_send_8 (by decide) (fun h => absurd h (by decide)) (fun _ => ?_)
      refine rm_iload_n hc dX6_send_11 rfl rfl ?_
      refine rm_iload hc dX6_send_12 rfl ?_
      refine rm_ishr hc dX6_send_14 (fun v_10 e_10 => ?_)
      refine rm_iconst (v := 1) hc dX6_send_15 (by decide) ?_
      refine rm_iand hc dX6_send_16 (fun v_11 e_11 => ?_)
      refine rm_iconst (v := 1) hc dX6_send_17 (by decide) ?_
      by_cases hb_12 : (msk >>> (nI 1 &&& 31)) &&& 1 = 1
      · --bit 1
        refine rm_icmp_ne (tgt := 25) hc dX6_send_18 (by decide) (fun h => absurd (by rw [e_11, e_10]; exact hb_12) h) (fun _ => ?_)
        refine rm_iconst (v := 1) hc dX6_send_21 (by decide) ?_
        refine rm_goto (tgt := 26) hc dX6_send_22 (by decide) ?_
        refine rm_istore (ls' := [(0, .ref (ad k 0 0)), (1, .int num), (2, .int msk), (3, .int 0), (4, .int 1), (5, .int 1)]) hc dX6_send_26 (by decide) rfl ?_
        refine rm_iload hc dX6_send_28 rfl ?_
        refine rm_if_eq (tgt := 58) hc dX6_send_30 (by decide) (fun h => absurd h (by decide)) (fun _ => ?_)
        refine rm_aload_n hc dX6_send_33 rfl rfl ?_
        refine rm_get hc dX6_send_34 fl_X6_22 (dm_0 (by omega)) rfl rfl ?_
        refine rm_iload hc dX6_send_37 rfl ?_
        refine rm_aald (t0 := 2) (i := 1) (v := .ref (ad k 4 1)) hc dX6_send_39 (dm_3 (by omega)) rfl rfl (by omega) (by decide) rfl rfl ?_
        refine rm_iload_n hc dX6_send_40 rfl rfl ?_
        refine rm_aload_n hc dX6_send_41 rfl rfl ?_
        refine rm_get hc dX6_send_42 fl_X6_37 (dm_0 (by omega)) rfl rfl ?_
        refine rm_calliV (As := [.int num, .ref (ad k 8 0)]) (rest := []) hc dX6_send_45 (c_X1_hear hI y_6 (k := k) (d := 1) (k2 := k) (by omega) (by omega) (by omega) (by omega) num _ mm (by omega) (by have h5 := sendS_lo (x := x) (k := k) (msk := msk) (num := num) (mm := mm) (n := 1) (by omega) 1; rw [hs1] at h5; exact h5.trans hw) rfl) mv_X6_94 (dm_4 (by omega) (by omega) (by omega)) rfl rfl (hn := rfl) (hst := rfl) (hw := Nat.le_of_ble_eq_true rfl) (hR := ⟨⟨rfl, rfl⟩, Nat.le_of_ble_eq_true rfl, Nat.le_of_ble_eq_true rfl⟩) (hnc := ⟨Nat.zero_le _, Nat.zero_le _⟩) (fun r_14 y_14 h_14 => ?_)
        obtain ⟨e_14, ey_14⟩ := h_14
        refine rm_if_ne (tgt := 58) hc dX6_send_48 (by decide) (fun c_15 => ?_) (fun c_15 => ?_)
        · --
          refine rm_iinc (v := 2) (ls' := [(0, .ref (ad k 0 0)), (1, .int num), (2, .int msk), (3, .int 0), (4, .int 2), (5, .int 1)]) hc dX6_send_58 rfl (by decide) (by decide) rfl ?_
          refine rm_goto (tgt := 5) hc dX6_send_61 (by decide) ?_
          have hs2 : sendS x k msk num mm 2 = (0, y_14) := by rw [sendS_y hb_12, hs1]; rw [if_neg (fun h => c_15 (e_14.trans h)), ← ey_14]
          refine rm_sub [0, 1, 2, 3, 4] rfl ?_
          refine rm_iload hc dX6_send_5 rfl ?_
          refine rm_iconst (v := 3) hc dX6_send_7 (by decide) ?_
          refine rm_icmp_ge (tgt := 64) hc dX6_send_8 (by decide) (fun h => absurd h (by decide)) (fun _ => ?_)
          refine rm_iload_n hc dX6_send_11 rfl rfl ?_
          refine rm_iload hc dX6_send_12 rfl ?_
          refine rm_ishr hc dX6_send_14 (fun v_18 e_18 => ?_)
          refine rm_iconst (v := 1) hc dX6_send_15 (by decide) ?_
          refine rm_iand hc dX6_send_16 (fun v_19 e_19 => ?_)
          refine rm_iconst (v := 1) hc dX6_send_17 (by decide) ?_
          by_cases hb_20 : (msk >>> (nI 2 &&& 31)) &&& 1 = 1
          · --bit 1
            refine rm_icmp_ne (tgt := 25) hc dX6_send_18 (by decide) (fun h => absurd (by rw [e_19, e_18]; exact hb_20) h) (fun _ => ?_)
            refine rm_iconst (v := 1) hc dX6_send_21 (by decide) ?_
            refine rm_goto (tgt := 26) hc dX6_send_22 (by decide) ?_
            refine rm_istore (ls' := [(0, .ref (ad k 0 0)), (1, .int num), (2, .int msk), (3, .int 0), (4, .int 2), (5, .int 1)]) hc dX6_send_26 (by decide) rfl ?_
            refine rm_iload hc dX6_send_28 rfl ?_
            refine rm_if_eq (tgt := 58) hc dX6_send_30 (by decide) (fun h => absurd h (by decide)) (fun _ => ?_)
            refine rm_aload_n hc dX6_send_33 rfl rfl ?_
            refine rm_get hc dX6_send_34 fl_X6_22 (dm_0 (by omega)) rfl rfl ?_
            refine rm_iload hc dX6_send_37 rfl ?_
            refine rm_aald (t0 := 2) (i := 2) (v := .ref (ad k 4 2)) hc dX6_send_39 (dm_3 (by omega)) rfl rfl (by omega) (by decide) rfl rfl ?_
            refine rm_iload_n hc dX6_send_40 rfl rfl ?_
            refine rm_aload_n hc dX6_send_41 rfl rfl ?_
            refine rm_get hc dX6_send_42 fl_X6_37 (dm_0 (by omega)) rfl rfl ?_
            refine rm_calliV (As := [.int num, .ref (ad k 8 0)]) (rest := []) hc dX6_send_45 (c_X1_hear hI y_14 (k := k) (d := 2) (k2 := k) (by omega) (by omega) (by omega) (by omega) num _ mm (by omega) (by have h5 := sendS_lo (x := x) (k := k) (msk := msk) (num := num) (mm := mm) (n := 1) (by omega) 2; rw [hs2] at h5; exact h5.trans hw) rfl) mv_X6_94 (dm_4 (by omega) (by omega) (by omega)) rfl rfl (hn := rfl) (hst := rfl) (hw := Nat.le_of_ble_eq_true rfl) (hR := ⟨⟨rfl, rfl⟩, Nat.le_of_ble_eq_true rfl, Nat.le_of_ble_eq_true rfl⟩) (hnc := ⟨Nat.zero_le _, Nat.zero_le _⟩) (fun r_22 y_22 h_22 => ?_)
            obtain ⟨e_22, ey_22⟩ := h_22
            refine rm_if_ne (tgt := 58) hc dX6_send_48 (by decide) (fun c_23 => ?_) (fun c_23 => ?_)
            · --
              refine rm_iinc (v := 3) (ls' := [(0, .ref (ad k 0 0)), (1, .int num), (2, .int msk), (3, .int 0), (4, .int 3), (5, .int 1)]) hc dX6_send_58 rfl (by decide) (by decide) rfl ?_
              refine rm_goto (tgt := 5) hc dX6_send_61 (by decide) ?_
              have hs3 : sendS x k msk num mm 3 = (0, y_22) := by rw [sendS_y hb_20, hs2]; rw [if_neg (fun h => c_23 (e_22.trans h)), ← ey_22]
              refine rm_sub [0, 1, 2, 3, 4] rfl ?_
              refine rm_iload hc dX6_send_5 rfl ?_
              refine rm_iconst (v := 3) hc dX6_send_7 (by decide) ?_
              refine rm_icmp_ge (tgt := 64) hc dX6_send_8 (by decide) (fun _ => ?_) (fun h => absurd (by decide) h)
              refine rm_iload_n hc dX6_send_64 rfl rfl ?_
              exact rm_iret hc dX6_send_65 ⟨by rw [hs3], by rw [hs3]⟩
            · --
              refine rm_iload_n hc dX6_send_51 rfl rfl ?_
              refine rm_iconst (v := 1) hc dX6_send_52 (by decide) ?_
              refine rm_iload hc dX6_send_53 rfl ?_
              refine rm_ishl hc dX6_send_55 (fun v_26 e_26 => ?_)
              obtain rfl : v_26 = 4 := e_26.trans (by decide)
              clear e_26
              refine rm_ior hc dX6_send_56 (fun v_27 e_27 => ?_)
              obtain rfl : v_27 = 4 := e_27.trans (by decide)
              clear e_27
              refine rm_istore_n (ls' := [(0, .ref (ad k 0 0)), (1, .int num), (2, .int msk), (3, .int 4), (4, .int 2), (5, .int 1)]) hc dX6_send_57 rfl (by decide) rfl ?_
              refine rm_iinc (v := 3) (ls' := [(0, .ref (ad k 0 0)), (1, .int num), (2, .int msk), (3, .int 4), (4, .int 3), (5, .int 1)]) hc dX6_send_58 rfl (by decide) (by decide) rfl ?_
              refine rm_goto (tgt := 5) hc dX6_send_61 (by decide) ?_
              have hs3 : sendS x k msk num mm 3 = (4, y_22) := by rw [sendS_y hb_20, hs2]; rw [if_pos (e_22.symm.trans c_23), ← ey_22]; exact Prod.ext (show (0 : Int32) ||| (1 <<< (nI 2 &&& 31)) = 4 by decide) rfl
              refine rm_sub [0, 1, 2, 3, 4] rfl ?_
              refine rm_iload hc dX6_send_5 rfl ?_
              refine rm_iconst (v := 3) hc dX6_send_7 (by decide) ?_
              refine rm_icmp_ge (tgt := 64) hc dX6_send_8 (by decide) (fun _ => ?_) (fun h => absurd (by decide) h)
              refine rm_iload_n hc dX6_send_64 rfl rfl ?_
              exact rm_iret hc dX6_send_65 ⟨by rw [hs3], by rw [hs3]⟩
          · --bit 0
            refine rm_icmp_ne (tgt := 25) hc dX6_send_18 (by decide) (fun _ => ?_) (fun h => absurd h (by rw [e_19, e_18]; exact hb_20))
            refine rm_iconst (v := 0) hc dX6_send_25 (by decide) ?_
            refine rm_istore (ls' := [(0, .ref (ad k 0 0)), (1, .int num), (2, .int msk), (3, .int 0), (4, .int 2), (5, .int 0)]) hc dX6_send_26 (by decide) rfl ?_
            refine rm_iload hc dX6_send_28 rfl ?_
            refine rm_if_eq (tgt := 58) hc dX6_send_30 (by decide) (fun _ => ?_) (fun h => absurd (by decide) h)
            refine rm_iinc (v := 3) (ls' := [(0, .ref (ad k 0 0)), (1, .int num), (2, .int msk), (3, .int 0), (4, .int 3), (5, .int 0)]) hc dX6_send_58 rfl (by decide) (by decide) rfl ?_
            refine rm_goto (tgt := 5) hc dX6_send_61 (by decide) ?_
            have hs3 : sendS x k msk num mm 3 = (0, y_14) := (sendS_n hb_20).trans hs2
            refine rm_sub [0, 1, 2, 3, 4] rfl ?_
            refine rm_iload hc dX6_send_5 rfl ?_
            refine rm_iconst (v := 3) hc dX6_send_7 (by decide) ?_
            refine rm_icmp_ge (tgt := 64) hc dX6_send_8 (by decide) (fun _ => ?_) (fun h => absurd (by decide) h)
            refine rm_iload_n hc dX6_send_64 rfl rfl ?_
            exact rm_iret hc dX6_send_65 ⟨by rw [hs3], by rw [hs3]⟩
        · --
          refine rm_iload_n hc dX6_send_51 rfl rfl ?_
          refine rm_iconst (v := 1) hc dX6_send_52 (by decide) ?_
          refine rm_iload hc dX6_send_53 rfl ?_
          refine rm_ishl hc dX6_send_55 (fun v_33 e_33 => ?_)
          obtain rfl : v_33 = 2 := e_33.trans (by decide)
          clear e_33
          refine rm_ior hc dX6_send_56 (fun v_34 e_34 => ?_)
          obtain rfl : v_34 = 2 := e_34.trans (by decide)
          clear e_34
          refine rm_istore_n (ls' := [(0, .ref (ad k 0 0)), (1, .int num), (2, .int msk), (3, .int 2), (4, .int 1), (5, .int 1)]) hc dX6_send_57 rfl (by decide) rfl ?_
          refine rm_iinc (v := 2) (ls' := [(0, .ref (ad k 0 0)), (1, .int num), (2, .int msk), (3, .int 2), (4, .int 2), (5, .int 1)]) hc dX6_send_58 rfl (by decide) (by decide) rfl ?_
          refine rm_goto (tgt := 5) hc dX6_send_61 (by decide) ?_
          have hs2 : sendS x k msk num mm 2 = (2, y_14) := by rw [sendS_y hb_12, hs1]; rw [if_pos (e_14.symm.trans c_15), ← ey_14]; exact Prod.ext (show (0 : Int32) ||| (1 <<< (nI 1 &&& 31)) = 2 by decide) rfl
          refine rm_sub [0, 1, 2, 3, 4] rfl ?_
          refine rm_iload hc dX6_send_5 rfl ?_
          refine rm_iconst (v := 3) hc dX6_send_7 (by decide) ?_
          refine rm_icmp_ge (tgt := 64) hc dX6_send_8 (by decide) (fun h => absurd h (by decide)) (fun _ => ?_)
          refine rm_iload_n hc dX6_send_11 rfl rfl ?_
          refine rm_iload hc dX6_send_12 rfl ?_
          refine rm_ishr hc dX6_send_14 (fun v_37 e_37 => ?_)
          refine rm_iconst (v := 1) hc dX6_send_15 (by decide) ?_
          refine rm_iand hc dX6_send_16 (fun v_38 e_38 => ?_)
          refine rm_iconst (v := 1) hc dX6_send_17 (by decide) ?_
          by_cases hb_39 : (msk >>> (nI 2 &&& 31)) &&& 1 = 1
          · --bit 1
            refine rm_icmp_ne (tgt := 25) hc dX6_send_18 (by decide) (fun h => absurd (by rw [e_38, e_37]; exact hb_39) h) (fun _ => ?_)
            refine rm_iconst (v := 1) hc dX6_send_21 (by decide) ?_
            refine rm_goto (tgt := 26) hc dX6_send_22 (by decide) ?_
            refine rm_istore (ls' := [(0, .ref (ad k 0 0)), (1, .int num), (2, .int msk), (3, .int 2), (4, .int 2), (5, .int 1)]) hc dX6_send_26 (by decide) rfl ?_
            refine rm_iload hc dX6_send_28 rfl ?_
            refine rm_if_eq (tgt := 58) hc dX6_send_30 (by decide) (fun h => absurd h (by decide)) (fun _ => ?_)
            refine rm_aload_n hc dX6_send_33 rfl rfl ?_
            refine rm_get hc dX6_send_34 fl_X6_22 (dm_0 (by omega)) rfl rfl ?_
            refine rm_iload hc dX6_send_37 rfl ?_
            refine rm_aald (t0 := 2) (i := 2) (v := .ref (ad k 4 2)) hc dX6_send_39 (dm_3 (by omega)) rfl rfl (by omega) (by decide) rfl rfl ?_
            refine rm_iload_n hc dX6_send_40 rfl rfl ?_
            refine rm_aload_n hc dX6_send_41 rfl rfl ?_
            refine rm_get hc dX6_send_42 fl_X6_37 (dm_0 (by omega)) rfl rfl ?_
            refine rm_calliV (As := [.int num, .ref (ad k 8 0)]) (rest := []) hc dX6_send_45 (c_X1_hear hI y_14 (k := k) (d := 2) (k2 := k) (by omega) (by omega) (by omega) (by omega) num _ mm (by omega) (by have h5 := sendS_lo (x := x) (k := k) (msk := msk) (num := num) (mm := mm) (n := 1) (by omega) 2; rw [hs2] at h5; exact h5.trans hw) rfl) mv_X6_94 (dm_4 (by omega) (by omega) (by omega)) rfl rfl (hn := rfl) (hst := rfl) (hw := Nat.le_of_ble_eq_true rfl) (hR := ⟨⟨rfl, rfl⟩, Nat.le_of_ble_eq_true rfl, Nat.le_of_ble_eq_true rfl⟩) (hnc := ⟨Nat.zero_le _, Nat.zero_le _⟩) (fun r_41 y_41 h_41 => ?_)
            obtain ⟨e_41, ey_41⟩ := h_41
            refine rm_if_ne (tgt := 58) hc dX6_send_48 (by decide) (fun c_42 => ?_) (fun c_42 => ?_)
            · --
              refine rm_iinc (v := 3) (ls' := [(0, .ref (ad k 0 0)), (1, .int num), (2, .int msk), (3, .int 2), (4, .int 3), (5, .int 1)]) hc dX6_send_58 rfl (by decide) (by decide) rfl ?_
              refine rm_goto (tgt := 5) hc dX6_send_61 (by decide) ?_
              have hs3 : sendS x k msk num mm 3 = (2, y_41) := by rw [sendS_y hb_39, hs2]; rw [if_neg (fun h => c_42 (e_41.trans h)), ← ey_41]
              refine rm_sub [0, 1, 2, 3, 4] rfl ?_
              refine rm_iload hc dX6_send_5 rfl ?_
              refine rm_iconst (v := 3) hc dX6_send_7 (by decide) ?_
              refine rm_icmp_ge (tgt := 64) hc dX6_send_8 (by decide) (fun _ => ?_) (fun h => absurd (by decide) h)
              refine rm_iload_n hc dX6_send_64 rfl rfl ?_
              exact rm_iret hc dX6_send_65 ⟨by rw [hs3], by rw [hs3]⟩
            · --
              refine rm_iload_n hc dX6_send_51 rfl rfl ?_
              refine rm_iconst (v := 1) hc dX6_send_52 (by decide) ?_
              refine rm_iload hc dX6_send_53 rfl ?_
              refine rm_ishl hc dX6_send_55 (fun v_45 e_45 => ?_)
              obtain rfl : v_45 = 4 := e_45.trans (by decide)
              clear e_45
              refine rm_ior hc dX6_send_56 (fun v_46 e_46 => ?_)
              obtain rfl : v_46 = 6 := e_46.trans (by decide)
              clear e_46
              refine rm_istore_n (ls' := [(0, .ref (ad k 0 0)), (1, .int num), (2, .int msk), (3, .int 6), (4, .int 2), (5, .int 1)]) hc dX6_send_57 rfl (by decide) rfl ?_
              refine rm_iinc (v := 3) (ls' := [(0, .ref (ad k 0 0)), (1, .int num), (2, .int msk), (3, .int 6), (4, .int 3), (5, .int 1)]) hc dX6_send_58 rfl (by decide) (by decide) rfl ?_
              refine rm_goto (tgt := 5) hc dX6_send_61 (by decide) ?_
              have hs3 : sendS x k msk num mm 3 = (6, y_41) := by rw [sendS_y hb_39, hs2]; rw [if_pos (e_41.symm.trans c_42), ← ey_41]; exact Prod.ext (show (2 : Int32) ||| (1 <<< (nI 2 &&& 31)) = 6 by decide) rfl
              refine rm_sub [0, 1, 2, 3, 4] rfl ?_
              refine rm_iload hc dX6_send_5 rfl ?_
              refine rm_iconst (v := 3) hc dX6_send_7 (by decide) ?_
              refine rm_icmp_ge (tgt := 64) hc dX6_send_8 (by decide) (fun _ => ?_) (fun h => absurd (by decide) h)
              refine rm_iload_n hc dX6_send_64 rfl rfl ?_
              exact rm_iret hc dX6_send_65 ⟨by rw [hs3], by rw [hs3]⟩
          · --bit 0
            refine rm_icmp_ne (tgt := 25) hc dX6_send_18 (by decide) (fun _ => ?_) (fun h => absurd h (by rw [e_38, e_37]; exact hb_39))
            refine rm_iconst (v := 0) hc dX6_send_25 (by decide) ?_
            refine rm_istore (ls' := [(0, .ref (ad k 0 0)), (1, .int num), (2, .int msk), (3, .int 2), (4, .int 2), (5, .int 0)]) hc dX6_send_26 (by decide) rfl ?_
            refine rm_iload hc dX6_send_28 rfl ?_
            refine rm_if_eq (tgt := 58) hc dX6_send_30 (by decide) (fun _ => ?_) (fun h => absurd (by decide) h)
            refine rm_iinc (v := 3) (ls' := [(0, .ref (ad k 0 0)), (1, .int num), (2, .int msk), (3, .int 2), (4, .int 3), (5, .int 0)]) hc dX6_send_58 rfl (by decide) (by decide) rfl ?_
            refine rm_goto (tgt := 5) hc dX6_send_61 (by decide) ?_
            have hs3 : sendS x k msk num mm 3 = (2, y_14) := (sendS_n hb_39).trans hs2
            refine rm_sub [0, 1, 2, 3, 4] rfl ?_
            refine rm_iload hc dX6_send_5 rfl ?_
            refine rm_iconst (v := 3) hc dX6_send_7 (by decide) ?_
            refine rm_icmp_ge (tgt := 64) hc dX6_send_8 (by decide) (fun _ => ?_) (fun h => absurd (by decide) h)
            refine rm_iload_n hc dX6_send_64 rfl rfl ?_
            exact rm_iret hc dX6_send_65 ⟨by rw [hs3], by rw [hs3]⟩
      · --bit 0
        refine rm_icmp_ne (tgt := 25) hc dX6_send_18 (by decide) (fun _ => ?_) (fun h => absurd h (by rw [e_11, e_10]; exact hb_12))
        refine rm_iconst (v := 0) hc dX6_send_25 (by decide) ?_
        refine rm_istore (ls' := [(0, .ref (ad k 0 0)), (1, .int num), (2, .int msk), (3, .int 0), (4, .int 1), (5, .int 0)]) hc dX6_send_26 (by decide) rfl ?_
        refine rm_iload hc dX6_send_28 rfl ?_
        refine rm_if_eq (tgt := 58) hc dX6_send_30 (by decide) (fun _ => ?_) (fun h => absurd (by decide) h)
        refine rm_iinc (v := 2) (ls' := [(0, .ref (ad k 0 0)), (1, .int num), (2, .int msk), (3, .int 0), (4, .int 2), (5, .int 0)]) hc dX6_send_58 rfl (by decide) (by decide) rfl ?_
        refine rm_goto (tgt := 5) hc dX6_send_61 (by decide) ?_
        have hs2 : sendS x k msk num mm 2 = (0, y_6) := (sendS_n hb_12).trans hs1
        refine rm_sub [0, 1, 2, 3, 4] rfl ?_
        refine rm_iload hc dX6_send_5 rfl ?_
        refine rm_iconst (v := 3) hc dX6_send_7 (by decide) ?_
        refine rm_icmp_ge (tgt := 64) hc dX6_send_8 (by decide) (fun h => absurd h (by decide)) (fun _ => ?_)
        refine rm_iload_n hc dX6_send_11 rfl rfl ?_
        refine rm_iload hc dX6_send_12 rfl ?_
        refine rm_ishr hc dX6_send_14 (fun v_55 e_55 => ?_)
        refine rm_iconst (v := 1) hc dX6_send_15 (by decide) ?_
        refine rm_iand hc dX6_send_16 (fun v_56 e_56 => ?_)
        refine rm_iconst (v := 1) hc dX6_send_17 (by decide) ?_
        by_cases hb_57 : (msk >>> (nI 2 &&& 31)) &&& 1 = 1
        · --bit 1
          refine rm_icmp_ne (tgt := 25) hc dX6_send_18 (by decide) (fun h => absurd (by rw [e_56, e_55]; exact hb_57) h) (fun _ => ?_)
          refine rm_iconst (v := 1) hc dX6_send_21 (by decide) ?_
          refine rm_goto (tgt := 26) hc dX6_send_22 (by decide) ?_
          refine rm_istore (ls' := [(0, .ref (ad k 0 0)), (1, .int num), (2, .int msk), (3, .int 0), (4, .int 2), (5, .int 1)]) hc dX6_send_26 (by decide) rfl ?_
          refine rm_iload hc dX6_send_28 rfl ?_
          refine rm_if_eq (tgt := 58) hc dX6_send_30 (by decide) (fun h => absurd h (by decide)) (fun _ => ?_)
          refine rm_aload_n hc dX6_send_33 rfl rfl ?_
          refine rm_get hc dX6_send_34 fl_X6_22 (dm_0 (by omega)) rfl rfl ?_
          refine rm_iload hc dX6_send_37 rfl ?_
          refine rm_aald (t0 := 2) (i := 2) (v := .ref (ad k 4 2)) hc dX6_send_39 (dm_3 (by omega)) rfl rfl (by omega) (by decide) rfl rfl ?_
          refine rm_iload_n hc dX6_send_40 rfl rfl ?_
          refine rm_aload_n hc dX6_send_41 rfl rfl ?_
          refine rm_get hc dX6_send_42 fl_X6_37 (dm_0 (by omega)) rfl rfl ?_
          refine rm_calliV (As := [.int num, .ref (ad k 8 0)]) (rest := []) hc dX6_send_45 (c_X1_hear hI y_6 (k := k) (d := 2) (k2 := k) (by omega) (by omega) (by omega) (by omega) num _ mm (by omega) (by have h5 := sendS_lo (x := x) (k := k) (msk := msk) (num := num) (mm := mm) (n := 1) (by omega) 2; rw [hs2] at h5; exact h5.trans hw) rfl) mv_X6_94 (dm_4 (by omega) (by omega) (by omega)) rfl rfl (hn := rfl) (hst := rfl) (hw := Nat.le_of_ble_eq_true rfl) (hR := ⟨⟨rfl, rfl⟩, Nat.le_of_ble_eq_true rfl, Nat.le_of_ble_eq_true rfl⟩) (hnc := ⟨Nat.zero_le _, Nat.zero_le _⟩) (fun r_59 y_59 h_59 => ?_)
          obtain ⟨e_59, ey_59⟩ := h_59
          refine rm_if_ne (tgt := 58) hc dX6_send_48 (by decide) (fun c_60 => ?_) (fun c_60 => ?_)
          · --
            refine rm_iinc (v := 3) (ls' := [(0, .ref (ad k 0 0)), (1, .int num), (2, .int msk), (3, .int 0), (4, .int 3), (5, .int 1)]) hc dX6_send_58 rfl (by decide) (by decide) rfl ?_
            refine rm_goto (tgt := 5) hc dX6_send_61 (by decide) ?_
            have hs3 : sendS x k msk num mm 3 = (0, y_59) := by rw [sendS_y hb_57, hs2]; rw [if_neg (fun h => c_60 (e_59.trans h)), ← ey_59]
            refine rm_sub [0, 1, 2, 3, 4] rfl ?_
            refine rm_iload hc dX6_send_5 rfl ?_
            refine rm_iconst (v := 3) hc dX6_send_7 (by decide) ?_
            refine rm_icmp_ge (tgt := 64) hc dX6_send_8 (by decide) (fun _ => ?_) (fun h => absurd (by decide) h)
            refine rm_iload_n hc dX6_send_64 rfl rfl ?_
            exact rm_iret hc dX6_send_65 ⟨by rw [hs3], by rw [hs3]⟩
          · --
            refine rm_iload_n hc dX6_send_51 rfl rfl ?_
            refine rm_iconst (v := 1) hc dX6_send_52 (by decide) ?_
            refine rm_iload hc dX6_send_53 rfl ?_
            refine rm_ishl hc dX6_send_55 (fun v_63 e_63 => ?_)
            obtain rfl : v_63 = 4 := e_63.trans (by decide)
            clear e_63
            refine rm_ior hc dX6_send_56 (fun v_64 e_64 => ?_)
            obtain rfl : v_64 = 4 := e_64.trans (by decide)
            clear e_64
            refine rm_istore_n (ls' := [(0, .ref (ad k 0 0)), (1, .int num), (2, .int msk), (3, .int 4), (4, .int 2), (5, .int 1)]) hc dX6_send_57 rfl (by decide) rfl ?_
            refine rm_iinc (v := 3) (ls' := [(0, .ref (ad k 0 0)), (1, .int num), (2, .int msk), (3, .int 4), (4, .int 3), (5, .int 1)]) hc dX6_send_58 rfl (by decide) (by decide) rfl ?_
            refine rm_goto (tgt := 5) hc dX6_send_61 (by decide) ?_
            have hs3 : sendS x k msk num mm 3 = (4, y_59) := by rw [sendS_y hb_57, hs2]; rw [if_pos (e_59.symm.trans c_60), ← ey_59]; exact Prod.ext (show (0 : Int32) ||| (1 <<< (nI 2 &&& 31)) = 4 by decide) rfl
            refine rm_sub [0, 1, 2, 3, 4] rfl ?_
            refine rm_iload hc dX6_send_5 rfl ?_
            refine rm_iconst (v := 3) hc dX6_send_7 (by decide) ?_
            refine rm_icmp_ge (tgt := 64) hc dX6_send_8 (by decide) (fun _ => ?_) (fun h => absurd (by decide) h)
            refine rm_iload_n hc dX6_send_64 rfl rfl ?_
            exact rm_iret hc dX6_send_65 ⟨by rw [hs3], by rw [hs3]⟩
        · --bit 0
          refine rm_icmp_ne (tgt := 25) hc dX6_send_18 (by decide) (fun _ => ?_) (fun h => absurd h (by rw [e_56, e_55]; exact hb_57))
          refine rm_iconst (v := 0) hc dX6_send_25 (by decide) ?_
          refine rm_istore (ls' := [(0, .ref (ad k 0 0)), (1, .int num), (2, .int msk), (3, .int 0), (4, .int 2), (5, .int 0)]) hc dX6_send_26 (by decide) rfl ?_
          refine rm_iload hc dX6_send_28 rfl ?_
          refine rm_if_eq (tgt := 58) hc dX6_send_30 (by decide) (fun _ => ?_) (fun h => absurd (by decide) h)
          refine rm_iinc (v := 3) (ls' := [(0, .ref (ad k 0 0)), (1, .int num), (2, .int msk), (3, .int 0), (4, .int 3), (5, .int 0)]) hc dX6_send_58 rfl (by decide) (by decide) rfl ?_
          refine rm_goto (tgt := 5) hc dX6_send_61 (by decide) ?_
          have hs3 : sendS x k msk num mm 3 = (0, y_6) := (sendS_n hb_57).trans hs2
          refine rm_sub [0, 1, 2, 3, 4] rfl ?_
          refine rm_iload hc dX6_send_5 rfl ?_
          refine rm_iconst (v := 3) hc dX6_send_7 (by decide) ?_
          refine rm_icmp_ge (tgt := 64) hc dX6_send_8 (by decide) (fun _ => ?_) (fun h => absurd (by decide) h)
          refine rm_iload_n hc dX6_send_64 rfl rfl ?_
          exact rm_iret hc dX6_send_65 ⟨by rw [hs3], by rw [hs3]⟩
    · --
      refine rm_iload_n hc dX6_send_51 rfl rfl ?_
      refine rm_iconst (v := 1) hc dX6_send_52 (by decide) ?_
      refine rm_iload hc dX6_send_53 rfl ?_
      refine rm_ishl hc dX6_send_55 (fun v_70 e_70 => ?_)
      obtain rfl : v_70 = 1 := e_70.trans (by decide)
      clear e_70
      refine rm_ior hc dX6_send_56 (fun v_71 e_71 => ?_)
      obtain rfl : v_71 = 1 := e_71.trans (by decide)
      clear e_71
      refine rm_istore_n (ls' := [(0, .ref (ad k 0 0)), (1, .int num), (2, .int msk), (3, .int 1), (4, .int 0), (5, .int 1)]) hc dX6_send_57 rfl (by decide) rfl ?_
      refine rm_iinc (v := 1) (ls' := [(0, .ref (ad k 0 0)), (1, .int num), (2, .int msk), (3, .int 1), (4, .int 1), (5, .int 1)]) hc dX6_send_58 rfl (by decide) (by decide) rfl ?_
      refine rm_goto (tgt := 5) hc dX6_send_61 (by decide) ?_
      have hs1 : sendS x k msk num mm 1 = (1, y_6) := by rw [sendS_y hb_4, hs0]; rw [if_pos (e_6.symm.trans c_7), ← ey_6]; exact Prod.ext (show (0 : Int32) ||| (1 <<< (nI 0 &&& 31)) = 1 by decide) rfl
      refine rm_sub [0, 1, 2, 3, 4] rfl ?_
      refine rm_iload hc dX6_send_5 rfl ?_
      refine rm_iconst (v := 3) hc dX6_send_7 (by decide) ?_
      refine rm_icmp_ge (tgt := 64) hc dX6_send_8 (by decide) (fun h => absurd h (by decide)) (fun _ => ?_)
      refine rm_iload_n hc dX6_send_11 rfl rfl ?_
      refine rm_iload hc dX6_send_12 rfl ?_
      refine rm_ishr hc dX6_send_14 (fun v_74 e_74 => ?_)
      refine rm_iconst (v := 1) hc dX6_send_15 (by decide) ?_
      refine rm_iand hc dX6_send_16 (fun v_75 e_75 => ?_)
      refine rm_iconst (v := 1) hc dX6_send_17 (by decide) ?_
      by_cases hb_76 : (msk >>> (nI 1 &&& 31)) &&& 1 = 1
      · --bit 1
        refine rm_icmp_ne (tgt := 25) hc dX6_send_18 (by decide) (fun h => absurd (by rw [e_75, e_74]; exact hb_76) h) (fun _ => ?_)
        refine rm_iconst (v := 1) hc dX6_send_21 (by decide) ?_
        refine rm_goto (tgt := 26) hc dX6_send_22 (by decide) ?_
        refine rm_istore (ls' := [(0, .ref (ad k 0 0)), (1, .int num), (2, .int msk), (3, .int 1), (4, .int 1), (5, .int 1)]) hc dX6_send_26 (by decide) rfl ?_
        refine rm_iload hc dX6_send_28 rfl ?_
        refine rm_if_eq (tgt := 58) hc dX6_send_30 (by decide) (fun h => absurd h (by decide)) (fun _ => ?_)
        refine rm_aload_n hc dX6_send_33 rfl rfl ?_
        refine rm_get hc dX6_send_34 fl_X6_22 (dm_0 (by omega)) rfl rfl ?_
        refine rm_iload hc dX6_send_37 rfl ?_
        refine rm_aald (t0 := 2) (i := 1) (v := .ref (ad k 4 1)) hc dX6_send_39 (dm_3 (by omega)) rfl rfl (by omega) (by decide) rfl rfl ?_
        refine rm_iload_n hc dX6_send_40 rfl rfl ?_
        refine rm_aload_n hc dX6_send_41 rfl rfl ?_
        refine rm_get hc dX6_send_42 fl_X6_37 (dm_0 (by omega)) rfl rfl ?_
        refine rm_calliV (As := [.int num, .ref (ad k 8 0)]) (rest := []) hc dX6_send_45 (c_X1_hear hI y_6 (k := k) (d := 1) (k2 := k) (by omega) (by omega) (by omega) (by omega) num _ mm (by omega) (by have h5 := sendS_lo (x := x) (k := k) (msk := msk) (num := num) (mm := mm) (n := 1) (by omega) 1; rw [hs1] at h5; exact h5.trans hw) rfl) mv_X6_94 (dm_4 (by omega) (by omega) (by omega)) rfl rfl (hn := rfl) (hst := rfl) (hw := Nat.le_of_ble_eq_true rfl) (hR := ⟨⟨rfl, rfl⟩, Nat.le_of_ble_eq_true rfl, Nat.le_of_ble_eq_true rfl⟩) (hnc := ⟨Nat.zero_le _, Nat.zero_le _⟩) (fun r_78 y_78 h_78 => ?_)
        obtain ⟨e_78, ey_78⟩ := h_78
        refine rm_if_ne (tgt := 58) hc dX6_send_48 (by decide) (fun c_79 => ?_) (fun c_79 => ?_)
        · --
          refine rm_iinc (v := 2) (ls' := [(0, .ref (ad k 0 0)), (1, .int num), (2, .int msk), (3, .int 1), (4, .int 2), (5, .int 1)]) hc dX6_send_58 rfl (by decide) (by decide) rfl ?_
          refine rm_goto (tgt := 5) hc dX6_send_61 (by decide) ?_
          have hs2 : sendS x k msk num mm 2 = (1, y_78) := by rw [sendS_y hb_76, hs1]; rw [if_neg (fun h => c_79 (e_78.trans h)), ← ey_78]
          refine rm_sub [0, 1, 2, 3, 4] rfl ?_
          refine rm_iload hc dX6_send_5 rfl ?_
          refine rm_iconst (v := 3) hc dX6_send_7 (by decide) ?_
          refine rm_icmp_ge (tgt := 64) hc dX6_send_8 (by decide) (fun h => absurd h (by decide)) (fun _ => ?_)
          refine rm_iload_n hc dX6_send_11 rfl rfl ?_
          refine rm_iload hc dX6_send_12 rfl ?_
          refine rm_ishr hc dX6_send_14 (fun v_82 e_82 => ?_)
          refine rm_iconst (v := 1) hc dX6_send_15 (by decide) ?_
          refine rm_iand hc dX6_send_16 (fun v_83 e_83 => ?_)
          refine rm_iconst (v := 1) hc dX6_send_17 (by decide) ?_
          by_cases hb_84 : (msk >>> (nI 2 &&& 31)) &&& 1 = 1
          · --bit 1
            refine rm_icmp_ne (tgt := 25) hc dX6_send_18 (by decide) (fun h => absurd (by rw [e_83, e_82]; exact hb_84) h) (fun _ => ?_)
            refine rm_iconst (v := 1) hc dX6_send_21 (by decide) ?_
            refine rm_goto (tgt := 26) hc dX6_send_22 (by decide) ?_
            refine rm_istore (ls' := [(0, .ref (ad k 0 0)), (1, .int num), (2, .int msk), (3, .int 1), (4, .int 2), (5, .int 1)]) hc dX6_send_26 (by decide) rfl ?_
            refine rm_iload hc dX6_send_28 rfl ?_
            refine rm_if_eq (tgt := 58) hc dX6_send_30 (by decide) (fun h => absurd h (by decide)) (fun _ => ?_)
            refine rm_aload_n hc dX6_send_33 rfl rfl ?_
            refine rm_get hc dX6_send_34 fl_X6_22 (dm_0 (by omega)) rfl rfl ?_
            refine rm_iload hc dX6_send_37 rfl ?_
            refine rm_aald (t0 := 2) (i := 2) (v := .ref (ad k 4 2)) hc dX6_send_39 (dm_3 (by omega)) rfl rfl (by omega) (by decide) rfl rfl ?_
            refine rm_iload_n hc dX6_send_40 rfl rfl ?_
            refine rm_aload_n hc dX6_send_41 rfl rfl ?_
            refine rm_get hc dX6_send_42 fl_X6_37 (dm_0 (by omega)) rfl rfl ?_
            refine rm_calliV (As := [.int num, .ref (ad k 8 0)]) (rest := []) hc dX6_send_45 (c_X1_hear hI y_78 (k := k) (d := 2) (k2 := k) (by omega) (by omega) (by omega) (by omega) num _ mm (by omega) (by have h5 := sendS_lo (x := x) (k := k) (msk := msk) (num := num) (mm := mm) (n := 1) (by omega) 2; rw [hs2] at h5; exact h5.trans hw) rfl) mv_X6_94 (dm_4 (by omega) (by omega) (by omega)) rfl rfl (hn := rfl) (hst := rfl) (hw := Nat.le_of_ble_eq_true rfl) (hR := ⟨⟨rfl, rfl⟩, Nat.le_of_ble_eq_true rfl, Nat.le_of_ble_eq_true rfl⟩) (hnc := ⟨Nat.zero_le _, Nat.zero_le _⟩) (fun r_86 y_86 h_86 => ?_)
            obtain ⟨e_86, ey_86⟩ := h_86
            refine rm_if_ne (tgt := 58) hc dX6_send_48 (by decide) (fun c_87 => ?_) (fun c_87 => ?_)
            · --
              refine rm_iinc (v := 3) (ls' := [(0, .ref (ad k 0 0)), (1, .int num), (2, .int msk), (3, .int 1), (4, .int 3), (5, .int 1)]) hc dX6_send_58 rfl (by decide) (by decide) rfl ?_
              refine rm_goto (tgt := 5) hc dX6_send_61 (by decide) ?_
              have hs3 : sendS x k msk num mm 3 = (1, y_86) := by rw [sendS_y hb_84, hs2]; rw [if_neg (fun h => c_87 (e_86.trans h)), ← ey_86]
              refine rm_sub [0, 1, 2, 3, 4] rfl ?_
              refine rm_iload hc dX6_send_5 rfl ?_
              refine rm_iconst (v := 3) hc dX6_send_7 (by decide) ?_
              refine rm_icmp_ge (tgt := 64) hc dX6_send_8 (by decide) (fun _ => ?_) (fun h => absurd (by decide) h)
              refine rm_iload_n hc dX6_send_64 rfl rfl ?_
              exact rm_iret hc dX6_send_65 ⟨by rw [hs3], by rw [hs3]⟩
            · --
              refine rm_iload_n hc dX6_send_51 rfl rfl ?_
              refine rm_iconst (v := 1) hc dX6_send_52 (by decide) ?_
              refine rm_iload hc dX6_send_53 rfl ?_
              refine rm_ishl hc dX6_send_55 (fun v_90 e_90 => ?_)
              obtain rfl : v_90 = 4 := e_90.trans (by decide)
              clear e_90
              refine rm_ior hc dX6_send_56 (fun v_91 e_91 => ?_)
              obtain rfl : v_91 = 5 := e_91.trans (by decide)
              clear e_91
              refine rm_istore_n (ls' := [(0, .ref (ad k 0 0)), (1, .int num), (2, .int msk), (3, .int 5), (4, .int 2), (5, .int 1)]) hc dX6_send_57 rfl (by decide) rfl ?_
              refine rm_iinc (v := 3) (ls' := [(0, .ref (ad k 0 0)), (1, .int num), (2, .int msk), (3, .int 5), (4, .int 3), (5, .int 1)]) hc dX6_send_58 rfl (by decide) (by decide) rfl ?_
              refine rm_goto (tgt := 5) hc dX6_send_61 (by decide) ?_
              have hs3 : sendS x k msk num mm 3 = (5, y_86) := by rw [sendS_y hb_84, hs2]; rw [if_pos (e_86.symm.trans c_87), ← ey_86]; exact Prod.ext (show (1 : Int32) ||| (1 <<< (nI 2 &&& 31)) = 5 by decide) rfl
              refine rm_sub [0, 1, 2, 3, 4] rfl ?_
              refine rm_iload hc dX6_send_5 rfl ?_
              refine rm_iconst (v := 3) hc dX6_send_7 (by decide) ?_
              refine rm_icmp_ge (tgt := 64) hc dX6_send_8 (by decide) (fun _ => ?_) (fun h => absurd (by decide) h)
              refine rm_iload_n hc dX6_send_64 rfl rfl ?_
              exact rm_iret hc dX6_send_65 ⟨by rw [hs3], by rw [hs3]⟩
          · --bit 0
            refine rm_icmp_ne (tgt := 25) hc dX6_send_18 (by decide) (fun _ => ?_) (fun h => absurd h (by rw [e_83, e_82]; exact hb_84))
            refine rm_iconst (v := 0) hc dX6_send_25 (by decide) ?_
            refine rm_istore (ls' := [(0, .ref (ad k 0 0)), (1, .int num), (2, .int msk), (3, .int 1), (4, .int 2), (5, .int 0)]) hc dX6_send_26 (by decide) rfl ?_
            refine rm_iload hc dX6_send_28 rfl ?_
            refine rm_if_eq (tgt := 58) hc dX6_send_30 (by decide) (fun _ => ?_) (fun h => absurd (by decide) h)
            refine rm_iinc (v := 3) (ls' := [(0, .ref (ad k 0 0)), (1, .int num), (2, .int msk), (3, .int 1), (4, .int 3), (5, .int 0)]) hc dX6_send_58 rfl (by decide) (by decide) rfl ?_
            refine rm_goto (tgt := 5) hc dX6_send_61 (by decide) ?_
            have hs3 : sendS x k msk num mm 3 = (1, y_78) := (sendS_n hb_84).trans hs2
            refine rm_sub [0, 1, 2, 3, 4] rfl ?_
            refine rm_iload hc dX6_send_5 rfl ?_
            refine rm_iconst (v := 3) hc dX6_send_7 (by decide) ?_
            refine rm_icmp_ge (tgt := 64) hc dX6_send_8 (by decide) (fun _ => ?_) (fun h => absurd (by decide) h)
            refine rm_iload_n hc dX6_send_64 rfl rfl ?_
            exact rm_iret hc dX6_send_65 ⟨by rw [hs3], by rw [hs3]⟩
        · --
          refine rm_iload_n hc dX6_send_51 rfl rfl ?_
          refine rm_iconst (v := 1) hc dX6_send_52 (by decide) ?_
          refine rm_iload hc dX6_send_53 rfl ?_
          refine rm_ishl hc dX6_send_55 (fun v_97 e_97 => ?_)
          obtain rfl : v_97 = 2 := e_97.trans (by decide)
          clear e_97
          refine rm_ior hc dX6_send_56 (fun v_98 e_98 => ?_)
          obtain rfl : v_98 = 3 := e_98.trans (by decide)
          clear e_98
          refine rm_istore_n (ls' := [(0, .ref (ad k 0 0)), (1, .int num), (2, .int msk), (3, .int 3), (4, .int 1), (5, .int 1)]) hc dX6_send_57 rfl (by decide) rfl ?_
          refine rm_iinc (v := 2) (ls' := [(0, .ref (ad k 0 0)), (1, .int num), (2, .int msk), (3, .int 3), (4, .int 2), (5, .int 1)]) hc dX6_send_58 rfl (by decide) (by decide) rfl ?_
          refine rm_goto (tgt := 5) hc dX6_send_61 (by decide) ?_
          have hs2 : sendS x k msk num mm 2 = (3, y_78) := by rw [sendS_y hb_76, hs1]; rw [if_pos (e_78.symm.trans c_79), ← ey_78]; exact Prod.ext (show (1 : Int32) ||| (1 <<< (nI 1 &&& 31)) = 3 by decide) rfl
          refine rm_sub [0, 1, 2, 3, 4] rfl ?_
          refine rm_iload hc dX6_send_5 rfl ?_
          refine rm_iconst (v := 3) hc dX6_send_7 (by decide) ?_
          refine rm_icmp_ge (tgt := 64) hc dX6_send_8 (by decide) (fun h => absurd h (by decide)) (fun _ => ?_)
          refine rm_iload_n hc dX6_send_11 rfl rfl ?_
          refine rm_iload hc dX6_send_12 rfl ?_
          refine rm_ishr hc dX6_send_14 (fun v_101 e_101 => ?_)
          refine rm_iconst (v := 1) hc dX6_send_15 (by decide) ?_
          refine rm_iand hc dX6_send_16 (fun v_102 e_102 => ?_)
          refine rm_iconst (v := 1) hc dX6_send_17 (by decide) ?_
          by_cases hb_103 : (msk >>> (nI 2 &&& 31)) &&& 1 = 1
          · --bit 1
            refine rm_icmp_ne (tgt := 25) hc dX6_send_18 (by decide) (fun h => absurd (by rw [e_102, e_101]; exact hb_103) h) (fun _ => ?_)
            refine rm_iconst (v := 1) hc dX6_send_21 (by decide) ?_
            refine rm_goto (tgt := 26) hc dX6_send_22 (by decide) ?_
            refine rm_istore (ls' := [(0, .ref (ad k 0 0)), (1, .int num), (2, .int msk), (3, .int 3), (4, .int 2), (5, .int 1)]) hc dX6_send_26 (by decide) rfl ?_
            refine rm_iload hc dX6_send_28 rfl ?_
            refine rm_if_eq (tgt := 58) hc dX6_send_30 (by decide) (fun h => absurd h (by decide)) (fun _ => ?_)
            refine rm_aload_n hc dX6_send_33 rfl rfl ?_
            refine rm_get hc dX6_send_34 fl_X6_22 (dm_0 (by omega)) rfl rfl ?_
            refine rm_iload hc dX6_send_37 rfl ?_
            refine rm_aald (t0 := 2) (i := 2) (v := .ref (ad k 4 2)) hc dX6_send_39 (dm_3 (by omega)) rfl rfl (by omega) (by decide) rfl rfl ?_
            refine rm_iload_n hc dX6_send_40 rfl rfl ?_
            refine rm_aload_n hc dX6_send_41 rfl rfl ?_
            refine rm_get hc dX6_send_42 fl_X6_37 (dm_0 (by omega)) rfl rfl ?_
            refine rm_calliV (As := [.int num, .ref (ad k 8 0)]) (rest := []) hc dX6_send_45 (c_X1_hear hI y_78 (k := k) (d := 2) (k2 := k) (by omega) (by omega) (by omega) (by omega) num _ mm (by omega) (by have h5 := sendS_lo (x := x) (k := k) (msk := msk) (num := num) (mm := mm) (n := 1) (by omega) 2; rw [hs2] at h5; exact h5.trans hw) rfl) mv_X6_94 (dm_4 (by omega) (by omega) (by omega)) rfl rfl (hn := rfl) (hst := rfl) (hw := Nat.le_of_ble_eq_true rfl) (hR := ⟨⟨rfl, rfl⟩, Nat.le_of_ble_eq_true rfl, Nat.le_of_ble_eq_true rfl⟩) (hnc := ⟨Nat.zero_le _, Nat.zero_le _⟩) (fun r_105 y_105 h_105 => ?_)
            obtain ⟨e_105, ey_105⟩ := h_105
            refine rm_if_ne (tgt := 58) hc dX6_send_48 (by decide) (fun c_106 => ?_) (fun c_106 => ?_)
            · --
              refine rm_iinc (v := 3) (ls' := [(0, .ref (ad k 0 0)), (1, .int num), (2, .int msk), (3, .int 3), (4, .int 3), (5, .int 1)]) hc dX6_send_58 rfl (by decide) (by decide) rfl ?_
              refine rm_goto (tgt := 5) hc dX6_send_61 (by decide) ?_
              have hs3 : sendS x k msk num mm 3 = (3, y_105) := by rw [sendS_y hb_103, hs2]; rw [if_neg (fun h => c_106 (e_105.trans h)), ← ey_105]
              refine rm_sub [0, 1, 2, 3, 4] rfl ?_
              refine rm_iload hc dX6_send_5 rfl ?_
              refine rm_iconst (v := 3) hc dX6_send_7 (by decide) ?_
              refine rm_icmp_ge (tgt := 64) hc dX6_send_8 (by decide) (fun _ => ?_) (fun h => absurd (by decide) h)
              refine rm_iload_n hc dX6_send_64 rfl rfl ?_
              exact rm_iret hc dX6_send_65 ⟨by rw [hs3], by rw [hs3]⟩
            · --
              refine rm_iload_n hc dX6_send_51 rfl rfl ?_
              refine rm_iconst (v := 1) hc dX6_send_52 (by decide) ?_
              refine rm_iload hc dX6_send_53 rfl ?_
              refine rm_ishl hc dX6_send_55 (fun v_109 e_109 => ?_)
              obtain rfl : v_109 = 4 := e_109.trans (by decide)
              clear e_109
              refine rm_ior hc dX6_send_56 (fun v_110 e_110 => ?_)
              obtain rfl : v_110 = 7 := e_110.trans (by decide)
              clear e_110
              refine rm_istore_n (ls' := [(0, .ref (ad k 0 0)), (1, .int num), (2, .int msk), (3, .int 7), (4, .int 2), (5, .int 1)]) hc dX6_send_57 rfl (by decide) rfl ?_
              refine rm_iinc (v := 3) (ls' := [(0, .ref (ad k 0 0)), (1, .int num), (2, .int msk), (3, .int 7), (4, .int 3), (5, .int 1)]) hc dX6_send_58 rfl (by decide) (by decide) rfl ?_
              refine rm_goto (tgt := 5) hc dX6_send_61 (by decide) ?_
              have hs3 : sendS x k msk num mm 3 = (7, y_105) := by rw [sendS_y hb_103, hs2]; rw [if_pos (e_105.symm.trans c_106), ← ey_105]; exact Prod.ext (show (3 : Int32) ||| (1 <<< (nI 2 &&& 31)) = 7 by decide) rfl
              refine rm_sub [0, 1, 2, 3, 4] rfl ?_
              refine rm_iload hc dX6_send_5 rfl ?_
              refine rm_iconst (v := 3) hc dX6_send_7 (by decide) ?_
              refine rm_icmp_ge (tgt := 64) hc dX6_send_8 (by decide) (fun _ => ?_) (fun h => absurd (by decide) h)
              refine rm_iload_n hc dX6_send_64 rfl rfl ?_
              exact rm_iret hc dX6_send_65 ⟨by rw [hs3], by rw [hs3]⟩
          · --bit 0
            refine rm_icmp_ne (tgt := 25) hc dX6_send_18 (by decide) (fun _ => ?_) (fun h => absurd h (by rw [e_102, e_101]; exact hb_103))
            refine rm_iconst (v := 0) hc dX6_send_25 (by decide) ?_
            refine rm_istore (ls' := [(0, .ref (ad k 0 0)), (1, .int num), (2, .int msk), (3, .int 3), (4, .int 2), (5, .int 0)]) hc dX6_send_26 (by decide) rfl ?_
            refine rm_iload hc dX6_send_28 rfl ?_
            refine rm_if_eq (tgt := 58) hc dX6_send_30 (by decide) (fun _ => ?_) (fun h => absurd (by decide) h)
            refine rm_iinc (v := 3) (ls' := [(0, .ref (ad k 0 0)), (1, .int num), (2, .int msk), (3, .int 3), (4, .int 3), (5, .int 0)]) hc dX6_send_58 rfl (by decide) (by decide) rfl ?_
            refine rm_goto (tgt := 5) hc dX6_send_61 (by decide) ?_
            have hs3 : sendS x k msk num mm 3 = (3, y_78) := (sendS_n hb_103).trans hs2
            refine rm_sub [0, 1, 2, 3, 4] rfl ?_
            refine rm_iload hc dX6_send_5 rfl ?_
            refine rm_iconst (v := 3) hc dX6_send_7 (by decide) ?_
            refine rm_icmp_ge (tgt := 64) hc dX6_send_8 (by decide) (fun _ => ?_) (fun h => absurd (by decide) h)
            refine rm_iload_n hc dX6_send_64 rfl rfl ?_
            exact rm_iret hc dX6_send_65 ⟨by rw [hs3], by rw [hs3]⟩
      · --bit 0
        refine rm_icmp_ne (tgt := 25) hc dX6_send_18 (by decide) (fun _ => ?_) (fun h => absurd h (by rw [e_75, e_74]; exact hb_76))
        refine rm_iconst (v := 0) hc dX6_send_25 (by decide) ?_
        refine rm_istore (ls' := [(0, .ref (ad k 0 0)), (1, .int num), (2, .int msk), (3, .int 1), (4, .int 1), (5, .int 0)]) hc dX6_send_26 (by decide) rfl ?_
        refine rm_iload hc dX6_send_28 rfl ?_
        refine rm_if_eq (tgt := 58) hc dX6_send_30 (by decide) (fun _ => ?_) (fun h => absurd (by decide) h)
        refine rm_iinc (v := 2) (ls' := [(0, .ref (ad k 0 0)), (1, .int num), (2, .int msk), (3, .int 1), (4, .int 2), (5, .int 0)]) hc dX6_send_58 rfl (by decide) (by decide) rfl ?_
        refine rm_goto (tgt := 5) hc dX6_send_61 (by decide) ?_
        have hs2 : sendS x k msk num mm 2 = (1, y_6) := (sendS_n hb_76).trans hs1
        refine rm_sub [0, 1, 2, 3, 4] rfl ?_
        refine rm_iload hc dX6_send_5 rfl ?_
        refine rm_iconst (v := 3) hc dX6_send_7 (by decide) ?_
        refine rm_icmp_ge (tgt := 64) hc dX6_send_8 (by decide) (fun h => absurd h (by decide)) (fun _ => ?_)
        refine rm_iload_n hc dX6_send_11 rfl rfl ?_
        refine rm_iload hc dX6_send_12 rfl ?_
        refine rm_ishr hc dX6_send_14 (fun v_119 e_119 => ?_)
        refine rm_iconst (v := 1) hc dX6_send_15 (by decide) ?_
        refine rm_iand hc dX6_send_16 (fun v_120 e_120 => ?_)
        refine rm_iconst (v := 1) hc dX6_send_17 (by decide) ?_
        by_cases hb_121 : (msk >>> (nI 2 &&& 31)) &&& 1 = 1
        · --bit 1
          refine rm_icmp_ne (tgt := 25) hc dX6_send_18 (by decide) (fun h => absurd (by rw [e_120, e_119]; exact hb_121) h) (fun _ => ?_)
          refine rm_iconst (v := 1) hc dX6_send_21 (by decide) ?_
          refine rm_goto (tgt := 26) hc dX6_send_22 (by decide) ?_
          refine rm_istore (ls' := [(0, .ref (ad k 0 0)), (1, .int num), (2, .int msk), (3, .int 1), (4, .int 2), (5, .int 1)]) hc dX6_send_26 (by decide) rfl ?_
          refine rm_iload hc dX6_send_28 rfl ?_
          refine rm_if_eq (tgt := 58) hc dX6_send_30 (by decide) (fun h => absurd h (by decide)) (fun _ => ?_)
          refine rm_aload_n hc dX6_send_33 rfl rfl ?_
          refine rm_get hc dX6_send_34 fl_X6_22 (dm_0 (by omega)) rfl rfl ?_
          refine rm_iload hc dX6_send_37 rfl ?_
          refine rm_aald (t0 := 2) (i := 2) (v := .ref (ad k 4 2)) hc dX6_send_39 (dm_3 (by omega)) rfl rfl (by omega) (by decide) rfl rfl ?_
          refine rm_iload_n hc dX6_send_40 rfl rfl ?_
          refine rm_aload_n hc dX6_send_41 rfl rfl ?_
          refine rm_get hc dX6_send_42 fl_X6_37 (dm_0 (by omega)) rfl rfl ?_
          refine rm_calliV (As := [.int num, .ref (ad k 8 0)]) (rest := []) hc dX6_send_45 (c_X1_hear hI y_6 (k := k) (d := 2) (k2 := k) (by omega) (by omega) (by omega) (by omega) num _ mm (by omega) (by have h5 := sendS_lo (x := x) (k := k) (msk := msk) (num := num) (mm := mm) (n := 1) (by omega) 2; rw [hs2] at h5; exact h5.trans hw) rfl) mv_X6_94 (dm_4 (by omega) (by omega) (by omega)) rfl rfl (hn := rfl) (hst := rfl) (hw := Nat.le_of_ble_eq_true rfl) (hR := ⟨⟨rfl, rfl⟩, Nat.le_of_ble_eq_true rfl, Nat.le_of_ble_eq_true rfl⟩) (hnc := ⟨Nat.zero_le _, Nat.zero_le _⟩) (fun r_123 y_123 h_123 => ?_)
          obtain ⟨e_123, ey_123⟩ := h_123
          refine rm_if_ne (tgt := 58) hc dX6_send_48 (by decide) (fun c_124 => ?_) (fun c_124 => ?_)
          · --
            refine rm_iinc (v := 3) (ls' := [(0, .ref (ad k 0 0)), (1, .int num), (2, .int msk), (3, .int 1), (4, .int 3), (5, .int 1)]) hc dX6_send_58 rfl (by decide) (by decide) rfl ?_
            refine rm_goto (tgt := 5) hc dX6_send_61 (by decide) ?_
            have hs3 : sendS x k msk num mm 3 = (1, y_123) := by rw [sendS_y hb_121, hs2]; rw [if_neg (fun h => c_124 (e_123.trans h)), ← ey_123]
            refine rm_sub [0, 1, 2, 3, 4] rfl ?_
            refine rm_iload hc dX6_send_5 rfl ?_
            refine rm_iconst (v := 3) hc dX6_send_7 (by decide) ?_
            refine rm_icmp_ge (tgt := 64) hc dX6_send_8 (by decide) (fun _ => ?_) (fun h => absurd (by decide) h)
            refine rm_iload_n hc dX6_send_64 rfl rfl ?_
            exact rm_iret hc dX6_send_65 ⟨by rw [hs3], by rw [hs3]⟩
          · --
            refine rm_iload_n hc dX6_send_51 rfl rfl ?_
            refine rm_iconst (v := 1) hc dX6_send_52 (by decide) ?_
            refine rm_iload hc dX6_send_53 rfl ?_
            refine rm_ishl hc dX6_send_55 (fun v_127 e_127 => ?_)
            obtain rfl : v_127 = 4 := e_127.trans (by decide)
            clear e_127
            refine rm_ior hc dX6_send_56 (fun v_128 e_128 => ?_)
            obtain rfl : v_128 = 5 := e_128.trans (by decide)
            clear e_128
            refine rm_istore_n (ls' := [(0, .ref (ad k 0 0)), (1, .int num), (2, .int msk), (3, .int 5), (4, .int 2), (5, .int 1)]) hc dX6_send_57 rfl (by decide) rfl ?_
            refine rm_iinc (v := 3) (ls' := [(0, .ref (ad k 0 0)), (1, .int num), (2, .int msk), (3, .int 5), (4, .int 3), (5, .int 1)]) hc dX6_send_58 rfl (by decide) (by decide) rfl ?_
            refine rm_goto (tgt := 5) hc dX6_send_61 (by decide) ?_
            have hs3 : sendS x k msk num mm 3 = (5, y_123) := by rw [sendS_y hb_121, hs2]; rw [if_pos (e_123.symm.trans c_124), ← ey_123]; exact Prod.ext (show (1 : Int32) ||| (1 <<< (nI 2 &&& 31)) = 5 by decide) rfl
            refine rm_sub [0, 1, 2, 3, 4] rfl ?_
            refine rm_iload hc dX6_send_5 rfl ?_
            refine rm_iconst (v := 3) hc dX6_send_7 (by decide) ?_
            refine rm_icmp_ge (tgt := 64) hc dX6_send_8 (by decide) (fun _ => ?_) (fun h => absurd (by decide) h)
            refine rm_iload_n hc dX6_send_64 rfl rfl ?_
            exact rm_iret hc dX6_send_65 ⟨by rw [hs3], by rw [hs3]⟩
        · --bit 0
          refine rm_icmp_ne (tgt := 25) hc dX6_send_18 (by decide) (fun _ => ?_) (fun h => absurd h (by rw [e_120, e_119]; exact hb_121))
          refine rm_iconst (v := 0) hc dX6_send_25 (by decide) ?_
          refine rm_istore (ls' := [(0, .ref (ad k 0 0)), (1, .int num), (2, .int msk), (3, .int 1), (4, .int 2), (5, .int 0)]) hc dX6_send_26 (by decide) rfl ?_
          refine rm_iload hc dX6_send_28 rfl ?_
          refine rm_if_eq (tgt := 58) hc dX6_send_30 (by decide) (fun _ => ?_) (fun h => absurd (by decide) h)
          refine rm_iinc (v := 3) (ls' := [(0, .ref (ad k 0 0)), (1, .int num), (2, .int msk), (3, .int 1), (4, .int 3), (5, .int 0)]) hc dX6_send_58 rfl (by decide) (by decide) rfl ?_
          refine rm_goto (tgt := 5) hc dX6_send_61 (by decide) ?_
          have hs3 : sendS x k msk num mm 3 = (1, y_6) := (sendS_n hb_121).trans hs2
          refine rm_sub [0, 1, 2, 3, 4] rfl ?_
          refine rm_iload hc dX6_send_5 rfl ?_
          refine rm_iconst (v := 3) hc dX6_send_7 (by decide) ?_
          refine rm_icmp_ge (tgt := 64) hc dX6_send_8 (by decide) (fun _ => ?_) (fun h => absurd (by decide) h)
          refine rm_iload_n hc dX6_send_64 rfl rfl ?_
          exact rm_iret hc dX6_send_65 ⟨by rw [hs3], by rw [hs3]⟩
  · --bit 0
    refine rm_icmp_ne (tgt := 25) hc dX6_send_18 (by decide) (fun _ => ?_) (fun h => absurd h (by rw [e_3, e_2]; exact hb_4))
    refine rm_iconst (v := 0) hc dX6_send_25 (by decide) ?_
    refine rm_istore (ls' := [(0, .ref (ad k 0 0)), (1, .int num), (2, .int msk), (3, .int 0), (4, .int 0), (5, .int 0)]) hc dX6_send_26 (by decide) rfl ?_
    refine rm_iload hc dX6_send_28 rfl ?_
    refine rm_if_eq (tgt := 58) hc dX6_send_30 (by decide) (fun _ => ?_) (fun h => absurd (by decide) h)
    refine rm_iinc (v := 1) (ls' := [(0, .ref (ad k 0 0)), (1, .int num), (2, .int msk), (3, .int 0), (4, .int 1), (5, .int 0)]) hc dX6_send_58 rfl (by decide) (by decide) rfl ?_
    refine rm_goto (tgt := 5) hc dX6_send_61 (by decide) ?_
    have hs1 : sendS x k msk num mm 1 = (0, x) := (sendS_n hb_4).trans hs0
    refine rm_sub [0, 1, 2, 3, 4] rfl ?_
    refine rm_iload hc dX6_send_5 rfl ?_
    refine rm_iconst (v := 3) hc dX6_send_7 (by decide) ?_
    refine rm_icmp_ge (tgt := 64) hc dX6_send_8 (by decide) (fun h => absurd h (by decide)) (fun _ => ?_)
    refine rm_iload_n hc dX6_send_11 rfl rfl ?_
    refine rm_iload hc dX6_send_12 rfl ?_
    refine rm_ishr hc dX6_send_14 (fun v_137 e_137 => ?_)
    refine rm_iconst (v := 1) hc dX6_send_15 (by decide) ?_
    refine rm_iand hc dX6_send_16 (fun v_138 e_138 => ?_)
    refine rm_iconst (v := 1) hc dX6_send_17 (by decide) ?_
    by_cases hb_139 : (msk >>> (nI 1 &&& 31)) &&& 1 = 1
    · --bit 1
      refine rm_icmp_ne (tgt := 25) hc dX6_send_18 (by decide) (fun h => absurd (by rw [e_138, e_137]; exact hb_139) h) (fun _ => ?_)
      refine rm_iconst (v := 1) hc dX6_send_21 (by decide) ?_
      refine rm_goto (tgt := 26) hc dX6_send_22 (by decide) ?_
      refine rm_istore (ls' := [(0, .ref (ad k 0 0)), (1, .int num), (2, .int msk), (3, .int 0), (4, .int 1), (5, .int 1)]) hc dX6_send_26 (by decide) rfl ?_
      refine rm_iload hc dX6_send_28 rfl ?_
      refine rm_if_eq (tgt := 58) hc dX6_send_30 (by decide) (fun h => absurd h (by decide)) (fun _ => ?_)
      refine rm_aload_n hc dX6_send_33 rfl rfl ?_
      refine rm_get hc dX6_send_34 fl_X6_22 (dm_0 (by omega)) rfl rfl ?_
      refine rm_iload hc dX6_send_37 rfl ?_
      refine rm_aald (t0 := 2) (i := 1) (v := .ref (ad k 4 1)) hc dX6_send_39 (dm_3 (by omega)) rfl rfl (by omega) (by decide) rfl rfl ?_
      refine rm_iload_n hc dX6_send_40 rfl rfl ?_
      refine rm_aload_n hc dX6_send_41 rfl rfl ?_
      refine rm_get hc dX6_send_42 fl_X6_37 (dm_0 (by omega)) rfl rfl ?_
      refine rm_calliV (As := [.int num, .ref (ad k 8 0)]) (rest := []) hc dX6_send_45 (c_X1_hear hI x (k := k) (d := 1) (k2 := k) (by omega) (by omega) (by omega) (by omega) num _ mm (by omega) (by have h5 := sendS_lo (x := x) (k := k) (msk := msk) (num := num) (mm := mm) (n := 1) (by omega) 1; rw [hs1] at h5; exact h5.trans hw) rfl) mv_X6_94 (dm_4 (by omega) (by omega) (by omega)) rfl rfl (hn := rfl) (hst := rfl) (hw := Nat.le_of_ble_eq_true rfl) (hR := ⟨⟨rfl, rfl⟩, Nat.le_of_ble_eq_true rfl, Nat.le_of_ble_eq_true rfl⟩) (hnc := ⟨Nat.zero_le _, Nat.zero_le _⟩) (fun r_141 y_141 h_141 => ?_)
      obtain ⟨e_141, ey_141⟩ := h_141
      refine rm_if_ne (tgt := 58) hc dX6_send_48 (by decide) (fun c_142 => ?_) (fun c_142 => ?_)
      · --
        refine rm_iinc (v := 2) (ls' := [(0, .ref (ad k 0 0)), (1, .int num), (2, .int msk), (3, .int 0), (4, .int 2), (5, .int 1)]) hc dX6_send_58 rfl (by decide) (by decide) rfl ?_
        refine rm_goto (tgt := 5) hc dX6_send_61 (by decide) ?_
        have hs2 : sendS x k msk num mm 2 = (0, y_141) := by rw [sendS_y hb_139, hs1]; rw [if_neg (fun h => c_142 (e_141.trans h)), ← ey_141]
        refine rm_sub [0, 1, 2, 3, 4] rfl ?_
        refine rm_iload hc dX6_send_5 rfl ?_
        refine rm_iconst (v := 3) hc dX6_send_7 (by decide) ?_
        refine rm_icmp_ge (tgt := 64) hc dX6_send_8 (by decide) (fun h => absurd h (by decide)) (fun _ => ?_)
        refine rm_iload_n hc dX6_send_11 rfl rfl ?_
        refine rm_iload hc dX6_send_12 rfl ?_
        refine rm_ishr hc dX6_send_14 (fun v_145 e_145 => ?_)
        refine rm_iconst (v := 1) hc dX6_send_15 (by decide) ?_
        refine rm_iand hc dX6_send_16 (fun v_146 e_146 => ?_)
        refine rm_iconst (v := 1) hc dX6_send_17 (by decide) ?_
        by_cases hb_147 : (msk >>> (nI 2 &&& 31)) &&& 1 = 1
        · --bit 1
          refine rm_icmp_ne (tgt := 25) hc dX6_send_18 (by decide) (fun h => absurd (by rw [e_146, e_145]; exact hb_147) h) (fun _ => ?_)
          refine rm_iconst (v := 1) hc dX6_send_21 (by decide) ?_
          refine rm_goto (tgt := 26) hc dX6_send_22 (by decide) ?_
          refine rm_istore (ls' := [(0, .ref (ad k 0 0)), (1, .int num), (2, .int msk), (3, .int 0), (4, .int 2), (5, .int 1)]) hc dX6_send_26 (by decide) rfl ?_
          refine rm_iload hc dX6_send_28 rfl ?_
          refine rm_if_eq (tgt := 58) hc dX6_send_30 (by decide) (fun h => absurd h (by decide)) (fun _ => ?_)
          refine rm_aload_n hc dX6_send_33 rfl rfl ?_
          refine rm_get hc dX6_send_34 fl_X6_22 (dm_0 (by omega)) rfl rfl ?_
          refine rm_iload hc dX6_send_37 rfl ?_
          refine rm_aald (t0 := 2) (i := 2) (v := .ref (ad k 4 2)) hc dX6_send_39 (dm_3 (by omega)) rfl rfl (by omega) (by decide) rfl rfl ?_
          refine rm_iload_n hc dX6_send_40 rfl rfl ?_
          refine rm_aload_n hc dX6_send_41 rfl rfl ?_
          refine rm_get hc dX6_send_42 fl_X6_37 (dm_0 (by omega)) rfl rfl ?_
          refine rm_calliV (As := [.int num, .ref (ad k 8 0)]) (rest := []) hc dX6_send_45 (c_X1_hear hI y_141 (k := k) (d := 2) (k2 := k) (by omega) (by omega) (by omega) (by omega) num _ mm (by omega) (by have h5 := sendS_lo (x := x) (k := k) (msk := msk) (num := num) (mm := mm) (n := 1) (by omega) 2; rw [hs2] at h5; exact h5.trans hw) rfl) mv_X6_94 (dm_4 (by omega) (by omega) (by omega)) rfl rfl (hn := rfl) (hst := rfl) (hw := Nat.le_of_ble_eq_true rfl) (hR := ⟨⟨rfl, rfl⟩, Nat.le_of_ble_eq_true rfl, Nat.le_of_ble_eq_true rfl⟩) (hnc := ⟨Nat.zero_le _, Nat.zero_le _⟩) (fun r_149 y_149 h_149 => ?_)
          obtain ⟨e_149, ey_149⟩ := h_149
          refine rm_if_ne (tgt := 58) hc dX6_send_48 (by decide) (fun c_150 => ?_) (fun c_150 => ?_)
          · --
            refine rm_iinc (v := 3) (ls' := [(0, .ref (ad k 0 0)), (1, .int num), (2, .int msk), (3, .int 0), (4, .int 3), (5, .int 1)]) hc dX6_send_58 rfl (by decide) (by decide) rfl ?_
            refine rm_goto (tgt := 5) hc dX6_send_61 (by decide) ?_
            have hs3 : sendS x k msk num mm 3 = (0, y_149) := by rw [sendS_y hb_147, hs2]; rw [if_neg (fun h => c_150 (e_149.trans h)), ← ey_149]
            refine rm_sub [0, 1, 2, 3, 4] rfl ?_
            refine rm_iload hc dX6_send_5 rfl ?_
            refine rm_iconst (v := 3) hc dX6_send_7 (by decide) ?_
            refine rm_icmp_ge (tgt := 64) hc dX6_send_8 (by decide) (fun _ => ?_) (fun h => absurd (by decide) h)
            refine rm_iload_n hc dX6_send_64 rfl rfl ?_
            exact rm_iret hc dX6_send_65 ⟨by rw [hs3], by rw [hs3]⟩
          · --
            refine rm_iload_n hc dX6_send_51 rfl rfl ?_
            refine rm_iconst (v := 1) hc dX6_send_52 (by decide) ?_
            refine rm_iload hc dX6_send_53 rfl ?_
            refine rm_ishl hc dX6_send_55 (fun v_153 e_153 => ?_)
            obtain rfl : v_153 = 4 := e_153.trans (by decide)
            clear e_153
            refine rm_ior hc dX6_send_56 (fun v_154 e_154 => ?_)
            obtain rfl : v_154 = 4 := e_154.trans (by decide)
            clear e_154
            refine rm_istore_n (ls' := [(0, .ref (ad k 0 0)), (1, .int num), (2, .int msk), (3, .int 4), (4, .int 2), (5, .int 1)]) hc dX6_send_57 rfl (by decide) rfl ?_
            refine rm_iinc (v := 3) (ls' := [(0, .ref (ad k 0 0)), (1, .int num), (2, .int msk), (3, .int 4), (4, .int 3), (5, .int 1)]) hc dX6_send_58 rfl (by decide) (by decide) rfl ?_
            refine rm_goto (tgt := 5) hc dX6_send_61 (by decide) ?_
            have hs3 : sendS x k msk num mm 3 = (4, y_149) := by rw [sendS_y hb_147, hs2]; rw [if_pos (e_149.symm.trans c_150), ← ey_149]; exact Prod.ext (show (0 : Int32) ||| (1 <<< (nI 2 &&& 31)) = 4 by decide) rfl
            refine rm_sub [0, 1, 2, 3, 4] rfl ?_
            refine rm_iload hc dX6_send_5 rfl ?_
            refine rm_iconst (v := 3) hc dX6_send_7 (by decide) ?_
            refine rm_icmp_ge (tgt := 64) hc dX6_send_8 (by decide) (fun _ => ?_) (fun h => absurd (by decide) h)
            refine rm_iload_n hc dX6_send_64 rfl rfl ?_
            exact rm_iret hc dX6_send_65 ⟨by rw [hs3], by rw [hs3]⟩
        · --bit 0
          refine rm_icmp_ne (tgt := 25) hc dX6_send_18 (by decide) (fun _ => ?_) (fun h => absurd h (by rw [e_146, e_145]; exact hb_147))
          refine rm_iconst (v := 0) hc dX6_send_25 (by decide) ?_
          refine rm_istore (ls' := [(0, .ref (ad k 0 0)), (1, .int num), (2, .int msk), (3, .int 0), (4, .int 2), (5, .int 0)]) hc dX6_send_26 (by decide) rfl ?_
          refine rm_iload hc dX6_send_28 rfl ?_
          refine rm_if_eq (tgt := 58) hc dX6_send_30 (by decide) (fun _ => ?_) (fun h => absurd (by decide) h)
          refine rm_iinc (v := 3) (ls' := [(0, .ref (ad k 0 0)), (1, .int num), (2, .int msk), (3, .int 0), (4, .int 3), (5, .int 0)]) hc dX6_send_58 rfl (by decide) (by decide) rfl ?_
          refine rm_goto (tgt := 5) hc dX6_send_61 (by decide) ?_
          have hs3 : sendS x k msk num mm 3 = (0, y_141) := (sendS_n hb_147).trans hs2
          refine rm_sub [0, 1, 2, 3, 4] rfl ?_
          refine rm_iload hc dX6_send_5 rfl ?_
          refine rm_iconst (v := 3) hc dX6_send_7 (by decide) ?_
          refine rm_icmp_ge (tgt := 64) hc dX6_send_8 (by decide) (fun _ => ?_) (fun h => absurd (by decide) h)
          refine rm_iload_n hc dX6_send_64 rfl rfl ?_
          exact rm_iret hc dX6_send_65 ⟨by rw [hs3], by rw [hs3]⟩
      · --
        refine rm_iload_n hc dX6_send_51 rfl rfl ?_
        refine rm_iconst (v := 1) hc dX6_send_52 (by decide) ?_
        refine rm_iload hc dX6_send_53 rfl ?_
        refine rm_ishl hc dX6_send_55 (fun v_160 e_160 => ?_)
        obtain rfl : v_160 = 2 := e_160.trans (by decide)
        clear e_160
        refine rm_ior hc dX6_send_56 (fun v_161 e_161 => ?_)
        obtain rfl : v_161 = 2 := e_161.trans (by decide)
        clear e_161
        refine rm_istore_n (ls' := [(0, .ref (ad k 0 0)), (1, .int num), (2, .int msk), (3, .int 2), (4, .int 1), (5, .int 1)]) hc dX6_send_57 rfl (by decide) rfl ?_
        refine rm_iinc (v := 2) (ls' := [(0, .ref (ad k 0 0)), (1, .int num), (2, .int msk), (3, .int 2), (4, .int 2), (5, .int 1)]) hc dX6_send_58 rfl (by decide) (by decide) rfl ?_
        refine rm_goto (tgt := 5) hc dX6_send_61 (by decide) ?_
        have hs2 : sendS x k msk num mm 2 = (2, y_141) := by rw [sendS_y hb_139, hs1]; rw [if_pos (e_141.symm.trans c_142), ← ey_141]; exact Prod.ext (show (0 : Int32) ||| (1 <<< (nI 1 &&& 31)) = 2 by decide) rfl
        refine rm_sub [0, 1, 2, 3, 4] rfl ?_
        refine rm_iload hc dX6_send_5 rfl ?_
        refine rm_iconst (v := 3) hc dX6_send_7 (by decide) ?_
        refine rm_icmp_ge (tgt := 64) hc dX6_send_8 (by decide) (fun h => absurd h (by decide)) (fun _ => ?_)
        refine rm_iload_n hc dX6_send_11 rfl rfl ?_
        refine rm_iload hc dX6_send_12 rfl ?_
        refine rm_ishr hc dX6_send_14 (fun v_164 e_164 => ?_)
        refine rm_iconst (v := 1) hc dX6_send_15 (by decide) ?_
        refine rm_iand hc dX6_send_16 (fun v_165 e_165 => ?_)
        refine rm_iconst (v := 1) hc dX6_send_17 (by decide) ?_
        by_cases hb_166 : (msk >>> (nI 2 &&& 31)) &&& 1 = 1
        · --bit 1
          refine rm_icmp_ne (tgt := 25) hc dX6_send_18 (by decide) (fun h => absurd (by rw [e_165, e_164]; exact hb_166) h) (fun _ => ?_)
          refine rm_iconst (v := 1) hc dX6_send_21 (by decide) ?_
          refine rm_goto (tgt := 26) hc dX6_send_22 (by decide) ?_
          refine rm_istore (ls' := [(0, .ref (ad k 0 0)), (1, .int num), (2, .int msk), (3, .int 2), (4, .int 2), (5, .int 1)]) hc dX6_send_26 (by decide) rfl ?_
          refine rm_iload hc dX6_send_28 rfl ?_
          refine rm_if_eq (tgt := 58) hc dX6_send_30 (by decide) (fun h => absurd h (by decide)) (fun _ => ?_)
          refine rm_aload_n hc dX6_send_33 rfl rfl ?_
          refine rm_get hc dX6_send_34 fl_X6_22 (dm_0 (by omega)) rfl rfl ?_
          refine rm_iload hc dX6_send_37 rfl ?_
          refine rm_aald (t0 := 2) (i := 2) (v := .ref (ad k 4 2)) hc dX6_send_39 (dm_3 (by omega)) rfl rfl (by omega) (by decide) rfl rfl ?_
          refine rm_iload_n hc dX6_send_40 rfl rfl ?_
          refine rm_aload_n hc dX6_send_41 rfl rfl ?_
          refine rm_get hc dX6_send_42 fl_X6_37 (dm_0 (by omega)) rfl rfl ?_
          refine rm_calliV (As := [.int num, .ref (ad k 8 0)]) (rest := []) hc dX6_send_45 (c_X1_hear hI y_141 (k := k) (d := 2) (k2 := k) (by omega) (by omega) (by omega) (by omega) num _ mm (by omega) (by have h5 := sendS_lo (x := x) (k := k) (msk := msk) (num := num) (mm := mm) (n := 1) (by omega) 2; rw [hs2] at h5; exact h5.trans hw) rfl) mv_X6_94 (dm_4 (by omega) (by omega) (by omega)) rfl rfl (hn := rfl) (hst := rfl) (hw := Nat.le_of_ble_eq_true rfl) (hR := ⟨⟨rfl, rfl⟩, Nat.le_of_ble_eq_true rfl, Nat.le_of_ble_eq_true rfl⟩) (hnc := ⟨Nat.zero_le _, Nat.zero_le _⟩) (fun r_168 y_168 h_168 => ?_)
          obtain ⟨e_168, ey_168⟩ := h_168
          refine rm_if_ne (tgt := 58) hc dX6_send_48 (by decide) (fun c_169 => ?_) (fun c_169 => ?_)
          · --
            refine rm_iinc (v := 3) (ls' := [(0, .ref (ad k 0 0)), (1, .int num), (2, .int msk), (3, .int 2), (4, .int 3), (5, .int 1)]) hc dX6_send_58 rfl (by decide) (by decide) rfl ?_
            refine rm_goto (tgt := 5) hc dX6_send_61 (by decide) ?_
            have hs3 : sendS x k msk num mm 3 = (2, y_168) := by rw [sendS_y hb_166, hs2]; rw [if_neg (fun h => c_169 (e_168.trans h)), ← ey_168]
            refine rm_sub [0, 1, 2, 3, 4] rfl ?_
            refine rm_iload hc dX6_send_5 rfl ?_
            refine rm_iconst (v := 3) hc dX6_send_7 (by decide) ?_
            refine rm_icmp_ge (tgt := 64) hc dX6_send_8 (by decide) (fun _ => ?_) (fun h => absurd (by decide) h)
            refine rm_iload_n hc dX6_send_64 rfl rfl ?_
            exact rm_iret hc dX6_send_65 ⟨by rw [hs3], by rw [hs3]⟩
          · --
            refine rm_iload_n hc dX6_send_51 rfl rfl ?_
            refine rm_iconst (v := 1) hc dX6_send_52 (by decide) ?_
            refine rm_iload hc dX6_send_53 rfl ?_
            refine rm_ishl hc dX6_send_55 (fun v_172 e_172 => ?_)
            obtain rfl : v_172 = 4 := e_172.trans (by decide)
            clear e_172
            refine rm_ior hc dX6_send_56 (fun v_173 e_173 => ?_)
            obtain rfl : v_173 = 6 := e_173.trans (by decide)
            clear e_173
            refine rm_istore_n (ls' := [(0, .ref (ad k 0 0)), (1, .int num), (2, .int msk), (3, .int 6), (4, .int 2), (5, .int 1)]) hc dX6_send_57 rfl (by decide) rfl ?_
            refine rm_iinc (v := 3) (ls' := [(0, .ref (ad k 0 0)), (1, .int num), (2, .int msk), (3, .int 6), (4, .int 3), (5, .int 1)]) hc dX6_send_58 rfl (by decide) (by decide) rfl ?_
            refine rm_goto (tgt := 5) hc dX6_send_61 (by decide) ?_
            have hs3 : sendS x k msk num mm 3 = (6, y_168) := by rw [sendS_y hb_166, hs2]; rw [if_pos (e_168.symm.trans c_169), ← ey_168]; exact Prod.ext (show (2 : Int32) ||| (1 <<< (nI 2 &&& 31)) = 6 by decide) rfl
            refine rm_sub [0, 1, 2, 3, 4] rfl ?_
            refine rm_iload hc dX6_send_5 rfl ?_
            refine rm_iconst (v := 3) hc dX6_send_7 (by decide) ?_
            refine rm_icmp_ge (tgt := 64) hc dX6_send_8 (by decide) (fun _ => ?_) (fun h => absurd (by decide) h)
            refine rm_iload_n hc dX6_send_64 rfl rfl ?_
            exact rm_iret hc dX6_send_65 ⟨by rw [hs3], by rw [hs3]⟩
        · --bit 0
          refine rm_icmp_ne (tgt := 25) hc dX6_send_18 (by decide) (fun _ => ?_) (fun h => absurd h (by rw [e_165, e_164]; exact hb_166))
          refine rm_iconst (v := 0) hc dX6_send_25 (by decide) ?_
          refine rm_istore (ls' := [(0, .ref (ad k 0 0)), (1, .int num), (2, .int msk), (3, .int 2), (4, .int 2), (5, .int 0)]) hc dX6_send_26 (by decide) rfl ?_
          refine rm_iload hc dX6_send_28 rfl ?_
          refine rm_if_eq (tgt := 58) hc dX6_send_30 (by decide) (fun _ => ?_) (fun h => absurd (by decide) h)
          refine rm_iinc (v := 3) (ls' := [(0, .ref (ad k 0 0)), (1, .int num), (2, .int msk), (3, .int 2), (4, .int 3), (5, .int 0)]) hc dX6_send_58 rfl (by decide) (by decide) rfl ?_
          refine rm_goto (tgt := 5) hc dX6_send_61 (by decide) ?_
          have hs3 : sendS x k msk num mm 3 = (2, y_141) := (sendS_n hb_166).trans hs2
          refine rm_sub [0, 1, 2, 3, 4] rfl ?_
          refine rm_iload hc dX6_send_5 rfl ?_
          refine rm_iconst (v := 3) hc dX6_send_7 (by decide) ?_
          refine rm_icmp_ge (tgt := 64) hc dX6_send_8 (by decide) (fun _ => ?_) (fun h => absurd (by decide) h)
          refine rm_iload_n hc dX6_send_64 rfl rfl ?_
          exact rm_iret hc dX6_send_65 ⟨by rw [hs3], by rw [hs3]⟩
    · --bit 0
      refine rm_icmp_ne (tgt := 25) hc dX6_send_18 (by decide) (fun _ => ?_) (fun h => absurd h (by rw [e_138, e_137]; exact hb_139))
      refine rm_iconst (v := 0) hc dX6_send_25 (by decide) ?_
      refine rm_istore (ls' := [(0, .ref (ad k 0 0)), (1, .int num), (2, .int msk), (3, .int 0), (4, .int 1), (5, .int 0)]) hc dX6_send_26 (by decide) rfl ?_
      refine rm_iload hc dX6_send_28 rfl ?_
      refine rm_if_eq (tgt := 58) hc dX6_send_30 (by decide) (fun _ => ?_) (fun h => absurd (by decide) h)
      refine rm_iinc (v := 2) (ls' := [(0, .ref (ad k 0 0)), (1, .int num), (2, .int msk), (3, .int 0), (4, .int 2), (5, .int 0)]) hc dX6_send_58 rfl (by decide) (by decide) rfl ?_
      refine rm_goto (tgt := 5) hc dX6_send_61 (by decide) ?_
      have hs2 : sendS x k msk num mm 2 = (0, x) := (sendS_n hb_139).trans hs1
      refine rm_sub [0, 1, 2, 3, 4] rfl ?_
      refine rm_iload hc dX6_send_5 rfl ?_
      refine rm_iconst (v := 3) hc dX6_send_7 (by decide) ?_
      refine rm_icmp_ge (tgt := 64) hc dX6_send_8 (by decide) (fun h => absurd h (by decide)) (fun _ => ?_)
      refine rm_iload_n hc dX6_send_11 rfl rfl ?_
      refine rm_iload hc dX6_send_12 rfl ?_
      refine rm_ishr hc dX6_send_14 (fun v_182 e_182 => ?_)
      refine rm_iconst (v := 1) hc dX6_send_15 (by decide) ?_
      refine rm_iand hc dX6_send_16 (fun v_183 e_183 => ?_)
      refine rm_iconst (v := 1) hc dX6_send_17 (by decide) ?_
      by_cases hb_184 : (msk >>> (nI 2 &&& 31)) &&& 1 = 1
      · --bit 1
        refine rm_icmp_ne (tgt := 25) hc dX6_send_18 (by decide) (fun h => absurd (by rw [e_183, e_182]; exact hb_184) h) (fun _ => ?_)
        refine rm_iconst (v := 1) hc dX6_send_21 (by decide) ?_
        refine rm_goto (tgt := 26) hc dX6_send_22 (by decide) ?_
        refine rm_istore (ls' := [(0, .ref (ad k 0 0)), (1, .int num), (2, .int msk), (3, .int 0), (4, .int 2), (5, .int 1)]) hc dX6_send_26 (by decide) rfl ?_
        refine rm_iload hc dX6_send_28 rfl ?_
        refine rm_if_eq (tgt := 58) hc dX6_send_30 (by decide) (fun h => absurd h (by decide)) (fun _ => ?_)
        refine rm_aload_n hc dX6_send_33 rfl rfl ?_
        refine rm_get hc dX6_send_34 fl_X6_22 (dm_0 (by omega)) rfl rfl ?_
        refine rm_iload hc dX6_send_37 rfl ?_
        refine rm_aald (t0 := 2) (i := 2) (v := .ref (ad k 4 2)) hc dX6_send_39 (dm_3 (by omega)) rfl rfl (by omega) (by decide) rfl rfl ?_
        refine rm_iload_n hc dX6_send_40 rfl rfl ?_
        refine rm_aload_n hc dX6_send_41 rfl rfl ?_
        refine rm_get hc dX6_send_42 fl_X6_37 (dm_0 (by omega)) rfl rfl ?_
        refine rm_calliV (As := [.int num, .ref (ad k 8 0)]) (rest := []) hc dX6_send_45 (c_X1_hear hI x (k := k) (d := 2) (k2 := k) (by omega) (by omega) (by omega) (by omega) num _ mm (by omega) (by have h5 := sendS_lo (x := x) (k := k) (msk := msk) (num := num) (mm := mm) (n := 1) (by omega) 2; rw [hs2] at h5; exact h5.trans hw) rfl) mv_X6_94 (dm_4 (by omega) (by omega) (by omega)) rfl rfl (hn := rfl) (hst := rfl) (hw := Nat.le_of_ble_eq_true rfl) (hR := ⟨⟨rfl, rfl⟩, Nat.le_of_ble_eq_true rfl, Nat.le_of_ble_eq_true rfl⟩) (hnc := ⟨Nat.zero_le _, Nat.zero_le _⟩) (fun r_186 y_186 h_186 => ?_)
        obtain ⟨e_186, ey_186⟩ := h_186
        refine rm_if_ne (tgt := 58) hc dX6_send_48 (by decide) (fun c_187 => ?_) (fun c_187 => ?_)
        · --
          refine rm_iinc (v := 3) (ls' := [(0, .ref (ad k 0 0)), (1, .int num), (2, .int msk), (3, .int 0), (4, .int 3), (5, .int 1)]) hc dX6_send_58 rfl (by decide) (by decide) rfl ?_
          refine rm_goto (tgt := 5) hc dX6_send_61 (by decide) ?_
          have hs3 : sendS x k msk num mm 3 = (0, y_186) := by rw [sendS_y hb_184, hs2]; rw [if_neg (fun h => c_187 (e_186.trans h)), ← ey_186]
          refine rm_sub [0, 1, 2, 3, 4] rfl ?_
          refine rm_iload hc dX6_send_5 rfl ?_
          refine rm_iconst (v := 3) hc dX6_send_7 (by decide) ?_
          refine rm_icmp_ge (tgt := 64) hc dX6_send_8 (by decide) (fun _ => ?_) (fun h => absurd (by decide) h)
          refine rm_iload_n hc dX6_send_64 rfl rfl ?_
          exact rm_iret hc dX6_send_65 ⟨by rw [hs3], by rw [hs3]⟩
        · --
          refine rm_iload_n hc dX6_send_51 rfl rfl ?_
          refine rm_iconst (v := 1) hc dX6_send_52 (by decide) ?_
          refine rm_iload hc dX6_send_53 rfl ?_
          refine rm_ishl hc dX6_send_55 (fun v_190 e_190 => ?_)
          obtain rfl : v_190 = 4 := e_190.trans (by decide)
          clear e_190
          refine rm_ior hc dX6_send_56 (fun v_191 e_191 => ?_)
          obtain rfl : v_191 = 4 := e_191.trans (by decide)
          clear e_191
          refine rm_istore_n (ls' := [(0, .ref (ad k 0 0)), (1, .int num), (2, .int msk), (3, .int 4), (4, .int 2), (5, .int 1)]) hc dX6_send_57 rfl (by decide) rfl ?_
          refine rm_iinc (v := 3) (ls' := [(0, .ref (ad k 0 0)), (1, .int num), (2, .int msk), (3, .int 4), (4, .int 3), (5, .int 1)]) hc dX6_send_58 rfl (by decide) (by decide) rfl ?_
          refine rm_goto (tgt := 5) hc dX6_send_61 (by decide) ?_
          have hs3 : sendS x k msk num mm 3 = (4, y_186) := by rw [sendS_y hb_184, hs2]; rw [if_pos (e_186.symm.trans c_187), ← ey_186]; exact Prod.ext (show (0 : Int32) ||| (1 <<< (nI 2 &&& 31)) = 4 by decide) rfl
          refine rm_sub [0, 1, 2, 3, 4] rfl ?_
          refine rm_iload hc dX6_send_5 rfl ?_
          refine rm_iconst (v := 3) hc dX6_send_7 (by decide) ?_
          refine rm_icmp_ge (tgt := 64) hc dX6_send_8 (by decide) (fun _ => ?_) (fun h => absurd (by decide) h)
          refine rm_iload_n hc dX6_send_64 rfl rfl ?_
          exact rm_iret hc dX6_send_65 ⟨by rw [hs3], by rw [hs3]⟩
      · --bit 0
        refine rm_icmp_ne (tgt := 25) hc dX6_send_18 (by decide) (fun _ => ?_) (fun h => absurd h (by rw [e_183, e_182]; exact hb_184))
        refine rm_iconst (v := 0) hc dX6_send_25 (by decide) ?_
        refine rm_istore (ls' := [(0, .ref (ad k 0 0)), (1, .int num), (2, .int msk), (3, .int 0), (4, .int 2), (5, .int 0)]) hc dX6_send_26 (by decide) rfl ?_
        refine rm_iload hc dX6_send_28 rfl ?_
        refine rm_if_eq (tgt := 58) hc dX6_send_30 (by decide) (fun _ => ?_) (fun h => absurd (by decide) h)
        refine rm_iinc (v := 3) (ls' := [(0, .ref (ad k 0 0)), (1, .int num), (2, .int msk), (3, .int 0), (4, .int 3), (5, .int 0)]) hc dX6_send_58 rfl (by decide) (by decide) rfl ?_
        refine rm_goto (tgt := 5) hc dX6_send_61 (by decide) ?_
        have hs3 : sendS x k msk num mm 3 = (0, x) := (sendS_n hb_184).trans hs2
        refine rm_sub [0, 1, 2, 3, 4] rfl ?_
        refine rm_iload hc dX6_send_5 rfl ?_
        refine rm_iconst (v := 3) hc dX6_send_7 (by decide) ?_
        refine rm_icmp_ge (tgt := 64) hc dX6_send_8 (by decide) (fun _ => ?_) (fun h => absurd (by decide) h)
        refine rm_iload_n hc dX6_send_64 rfl rfl ?_
        exact rm_iret hc dX6_send_65 ⟨by rw [hs3], by rw [hs3]⟩

abbrev rm_X6_pressFob : Room := { frames := 4, cells := 0, slots := 0, locals := 97 }
set_option maxHeartbeats 4000000 in
set_option maxRecDepth 100000 in
theorem c_X6_pressFob {l : Launch} {D : va_G} {cy : Nat → ClassId} {ad : Ads} (hI : IJ ad) (x : Mem) {k j : Nat} (hk : k < 7) (hj : j < 4) (msk : Int32) (mm : Nat) (hmm : mm < 2 ^ 30) (hw : x k 1 = nI mm) (hbat : ¬ x k (16 + 4 * j) ≤ 0) : Cti l yX6_pressFob cX6_pressFob 4 (some .int) rm_X6_pressFob D cy ad [.ref (ad k 0 0), .int (nI (j)), .int msk] x (fun r y => r = (prsS x k j msk mm).1 ∧ y = (prsS x k j msk mm).2) := by
  refine rm_entry (Qc := Qi D cy ad (fun r y => r = (prsS x k j msk mm).1 ∧ y = (prsS x k j msk mm).2)) hI (by decide) (Nat.le_of_ble_eq_true rfl) ?_
  intro p e s m args below meth c hc
  show RM _ _ _ _ _ _ _ _ _ _ _ _ _ _ _ _ _ [(0, .ref (ad k 0 0)), (1, .int (nI (j))), (2, .int msk)] []
  refine rm_aload_n hc dX6_pressFob_0 rfl rfl ?_
  refine rm_iload_n hc dX6_pressFob_1 rfl rfl ?_
  refine rm_calliV (As := [.int (nI (j))]) (rest := []) hc dX6_pressFob_2 (c_X6_canPress hI x (k := k) (j := j) (by omega) (by omega)) mv_X6_67 (dm_0 (by omega)) rfl rfl (hn := rfl) (hst := rfl) (hw := Nat.le_of_ble_eq_true rfl) (hR := ⟨⟨rfl, rfl⟩, Nat.le_of_ble_eq_true rfl, Nat.le_of_ble_eq_true rfl⟩) (hnc := ⟨Nat.zero_le _, Nat.zero_le _⟩) (fun r_1 y_1 h_1 => ?_)
  obtain ⟨e_1, ey_1⟩ := h_1
  obtain rfl := ey_1.symm
  refine rm_if_ne (tgt := 10) hc dX6_pressFob_5 (by decide) (fun _ => ?_) (fun h => absurd h (by rw [e_1]; simp [canS, hbat]))
  refine rm_aload_n hc dX6_pressFob_10 rfl rfl ?_
  refine rm_get hc dX6_pressFob_11 fl_X6_11 (dm_0 (by omega)) rfl rfl ?_
  refine rm_iload_n hc dX6_pressFob_14 rfl rfl ?_
  refine rm_aald (t0 := 1) (i := j) (v := .ref (ad k 2 j)) hc dX6_pressFob_15 (dm_1 (by omega)) rfl rfl (by omega) (by decide) rfl rfl ?_
  refine rm_calliV (As := []) (rest := []) hc dX6_pressFob_16 (c_X2_sendNext hI x (k := k) (j := j) (by omega) (by omega)) mv_X6_71 (dm_2 (by omega) (by omega)) rfl rfl (hn := rfl) (hst := rfl) (hw := Nat.le_of_ble_eq_true rfl) (hR := ⟨⟨rfl, rfl⟩, Nat.le_of_ble_eq_true rfl, Nat.le_of_ble_eq_true rfl⟩) (hnc := ⟨Nat.zero_le _, Nat.zero_le _⟩) (fun r_3 y_3 h_3 => ?_)
  obtain ⟨e_3, ey_3⟩ := h_3
  refine rm_istore_n (ls' := [(0, .ref (ad k 0 0)), (1, .int (nI (j))), (2, .int msk), (3, .int r_3)]) hc dX6_pressFob_19 rfl (by decide) rfl ?_
  refine rm_aload_n hc dX6_pressFob_20 rfl rfl ?_
  refine rm_get hc dX6_pressFob_21 fl_X6_30 (dm_0 (by omega)) rfl rfl ?_
  refine rm_iload_n hc dX6_pressFob_24 rfl rfl ?_
  refine rm_callvV (As := [.int r_3]) (rest := []) hc dX6_pressFob_25 (c_X0_record hI y_3 (k := k) (by omega) r_3) mv_X6_75 (dm_6 (by omega)) rfl rfl (hn := rfl) (hst := rfl) (hw := Nat.le_of_ble_eq_true rfl) (hR := ⟨⟨rfl, rfl⟩, Nat.le_of_ble_eq_true rfl, Nat.le_of_ble_eq_true rfl⟩) (hnc := ⟨Nat.zero_le _, Nat.zero_le _⟩) (fun y_4 h_4 => ?_)
  refine rm_aload_n hc dX6_pressFob_28 rfl rfl ?_
  refine rm_iload_n hc dX6_pressFob_29 rfl rfl ?_
  refine rm_iload_n hc dX6_pressFob_30 rfl rfl ?_
  refine rm_calliV (As := [.int r_3, .int msk]) (rest := []) hc dX6_pressFob_31 (c_X6_send hI y_4 (k := k) (by omega) r_3 msk mm (by omega) (by subst_vars; rw [recF_1, sndF_1]; exact hw)) mv_X6_78 (dm_0 (by omega)) rfl rfl (hn := rfl) (hst := rfl) (hw := Nat.le_of_ble_eq_true rfl) (hR := ⟨⟨rfl, rfl⟩, Nat.le_of_ble_eq_true rfl, Nat.le_of_ble_eq_true rfl⟩) (hnc := ⟨Nat.zero_le _, Nat.zero_le _⟩) (fun r_5 y_5 h_5 => ?_)
  obtain ⟨e_5, ey_5⟩ := h_5
  exact rm_iret hc dX6_pressFob_34 ⟨by subst_vars; rfl, by subst_vars; rfl⟩
