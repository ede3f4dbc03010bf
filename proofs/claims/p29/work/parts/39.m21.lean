abbrev rm_X8_openShare : Room := { frames := 1, cells := 0, slots := 0, locals := 25 }

set_option maxHeartbeats 4000000 in
set_option maxRecDepth 100000 in
theorem c_X8_openShare {l : Launch} {D : va_G} {cy : Nat → ClassId} {ad : Ads} (hI : IJ ad) (x : Mem) {oa ow : Nat} (hoa : sum3 (x 0 32) (x 0 54) (x 0 76) = nI oa) (how : sum3 (x 0 34) (x 0 56) (x 0 78) = nI ow) (hso : oa + ow < 2 ^ 20) : Ctd l yX8_openShare cX8_openShare 3 (some .double) rm_X8_openShare D cy ad [.ref (ad 8 9 0)] x (fun r y => r = shrS oa ow ∧ y = x) := by
  refine rm_entry (Qc := Qd D cy ad (fun r y => r = shrS oa ow ∧ y = x)) hI (by decide) (Nat.le_of_ble_eq_true rfl) ?_
  intro p e s m args below meth c hc
  show RM _ _ _ _ _ _ _ _ _ _ _ _ _ _ _ _ _ [(0, .ref (ad 8 9 0))] []
  refine rm_aload_n hc dX8_openShare_0 rfl rfl ?_
  refine rm_get hc dX8_openShare_1 fl_X8_10 dm_9 rfl rfl ?_
  refine rm_calliV (As := []) (rest := []) hc dX8_openShare_4 (c_X6_timesOpened hI x (k := 0) (by omega)) mv_X8_194 (dm_0 (by omega)) rfl rfl (hn := rfl) (hst := rfl) (hw := Nat.le_of_ble_eq_true rfl) (hR := ⟨⟨rfl, rfl⟩, Nat.le_of_ble_eq_true rfl, Nat.le_of_ble_eq_true rfl⟩) (hnc := ⟨Nat.zero_le _, Nat.zero_le _⟩) (fun r_1 y_1 h_1 => ?_)
  obtain ⟨e_1, ey_1⟩ := h_1
  obtain rfl := ey_1.symm
  obtain rfl : r_1 = nI oa := e_1.trans hoa
  refine rm_istore_n (ls' := [(0, .ref (ad 8 9 0)), (1, .int (nI (oa)))]) hc dX8_openShare_7 rfl (by decide) rfl ?_
  refine rm_iload_n hc dX8_openShare_8 rfl rfl ?_
  refine rm_aload_n hc dX8_openShare_9 rfl rfl ?_
  refine rm_get hc dX8_openShare_10 fl_X8_10 dm_9 rfl rfl ?_
  refine rm_calliV (As := []) (rest := [.int (nI (oa))]) hc dX8_openShare_13 (c_X6_wrongNumbers hI x (k := 0) (by omega)) mv_X8_197 (dm_0 (by omega)) rfl rfl (hn := rfl) (hst := rfl) (hw := Nat.le_of_ble_eq_true rfl) (hR := ⟨⟨rfl, rfl⟩, Nat.le_of_ble_eq_true rfl, Nat.le_of_ble_eq_true rfl⟩) (hnc := ⟨Nat.zero_le _, Nat.zero_le _⟩) (fun r_2 y_2 h_2 => ?_)
  obtain ⟨e_2, ey_2⟩ := h_2
  obtain rfl := ey_2.symm
  obtain rfl : r_2 = nI ow := e_2.trans how
  refine rm_iadd hc dX8_openShare_16 (fun v_3 e_3 => ?_)
  obtain rfl : v_3 = (nI (oa + ow)) := e_3.trans (nadd (m := oa) (n := ow) (by omega))
  clear e_3
  refine rm_istore_n (ls' := [(0, .ref (ad 8 9 0)), (1, .int (nI (oa))), (2, .int (nI (oa + ow)))]) hc dX8_openShare_17 rfl (by decide) rfl ?_
  refine rm_iload_n hc dX8_openShare_18 rfl rfl ?_
  rcases Nat.eq_zero_or_pos (oa + ow) with hz | hz
  · --
    refine rm_if_gt (tgt := 24) hc dX8_openShare_19 (by decide) (fun h => absurd h (fun h2 => absurd ((nI_ltI (a := 0) (b := oa + ow) (by omega) (by omega)).mp h2) (by omega))) (fun _ => ?_)
    refine rm_dconst1 hc dX8_openShare_22 ?_
    exact rm_dret hc dX8_openShare_23 ⟨by unfold shrS; rw [if_pos hz], rfl⟩
  · --
    have hnn : vf_n64 (FP.ddiv (FP.i2d (nI oa)) (FP.i2d (nI (oa + ow)))) := by have h9 := (shr_ok hso).nn; unfold shrS at h9; rwa [if_neg (by omega)] at h9
    refine rm_if_gt (tgt := 24) hc dX8_openShare_19 (by decide) (fun _ => ?_) (fun h => absurd ((nI_ltI (a := 0) (b := oa + ow) (by omega) (by omega)).mpr (by omega)) h)
    refine rm_iload_n hc dX8_openShare_24 rfl rfl ?_
    refine rm_i2d hc dX8_openShare_25 (fun v_5 e_5 => ?_)
    refine rm_iload_n hc dX8_openShare_26 rfl rfl ?_
    refine rm_i2d hc dX8_openShare_27 (fun v_6 e_6 => ?_)
    refine rm_ddiv hc dX8_openShare_28 (by subst_vars; exact hnn) (fun v_7 e_7 => ?_)
    exact rm_dret hc dX8_openShare_29 ⟨by unfold shrS; rw [if_neg (by omega)]; subst_vars; rfl, rfl⟩
