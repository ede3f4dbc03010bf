abbrev rm_X8_playPart : Room := { frames := 5, cells := 0, slots := 0, locals := 120 }
set_option maxHeartbeats 4000000 in
set_option maxRecDepth 100000 in
theorem c_X8_playPart {l : Launch} {D : va_G} {cy : Nat → ClassId} {ad : Ads} (hI : IJ ad) (x : Mem) {aa bb q nr : Nat} (hab : aa + 2 ≤ bb) (hb6 : bb ≤ 60) (hdq : digS x (nI (aa + 1)) = nI q) (hq4 : q < 4) (hcd : codeS x (nI aa) = 102) (mm : Nat) (hmm : mm < 2 ^ 30) (hw : x 0 1 = nI mm) (hnr : x 0 5 = nI nr) (hr8 : nr ≤ 8) : Cti l yX8_playPart cX8_playPart 4 (some .boolean) rm_X8_playPart D cy ad [.ref (ad 8 9 0), .int (nI (aa)), .int (nI (bb))] x (fun r y => r = (ppS x aa bb mm).1 ∧ y = (ppS x aa bb mm).2) := by
  refine rm_entry (Qc := Qi D cy ad (fun r y => r = (ppS x aa bb mm).1 ∧ y = (ppS x aa bb mm).2)) hI (by decide) (Nat.le_of_ble_eq_true rfl) ?_
  intro p e s m args below meth c hc
  show RM _ _ _ _ _ _ _ _ _ _ _ _ _ _ _ _ _ [(0, .ref (ad 8 9 0)), (1, .int (nI (aa))), (2, .int (nI (bb)))] []
  refine rm_aload_n hc dX8_playPart_0 rfl rfl ?_
  refine rm_get hc dX8_playPart_1 fl_X8_26 dm_9 rfl rfl ?_
  refine rm_iload_n hc dX8_playPart_4 rfl rfl ?_
  refine rm_iconst (v := 1) hc dX8_playPart_5 (by decide) ?_
  refine rm_iadd hc dX8_playPart_6 (fun v_1 e_1 => ?_)
  obtain rfl : v_1 = (nI (aa + 1)) := e_1.trans (nadd (m := aa) (n := 1) (by omega))
  clear e_1
  refine rm_calliV (As := [.int (nI (aa + 1))]) (rest := []) hc dX8_playPart_7 (c_X7_digit hI x (nI (aa + 1))) mv_X8_231 dm_12 rfl rfl (hn := rfl) (hst := rfl) (hw := Nat.le_of_ble_eq_true rfl) (hR := ⟨⟨rfl, rfl⟩, Nat.le_of_ble_eq_true rfl, Nat.le_of_ble_eq_true rfl⟩) (hnc := ⟨Nat.zero_le _, Nat.zero_le _⟩) (fun r_2 y_2 h_2 => ?_)
  obtain ⟨e_2, ey_2⟩ := h_2
  obtain rfl := ey_2.symm
  obtain rfl : r_2 = nI q := e_2.trans hdq
  refine rm_istore_n (ls' := [(0, .ref (ad 8 9 0)), (1, .int (nI (aa))), (2, .int (nI (bb))), (3, .int (nI (q)))]) hc dX8_playPart_10 rfl (by decide) rfl ?_
  refine rm_aload_n hc dX8_playPart_11 rfl rfl ?_
  refine rm_get hc dX8_playPart_12 fl_X8_26 dm_9 rfl rfl ?_
  refine rm_iload_n hc dX8_playPart_15 rfl rfl ?_
  refine rm_calliV (As := [.int (nI (aa))]) (rest := []) hc dX8_playPart_16 (c_X7_code hI x (nI (aa))) mv_X8_218 dm_12 rfl rfl (hn := rfl) (hst := rfl) (hw := Nat.le_of_ble_eq_true rfl) (hR := ⟨⟨rfl, rfl⟩, Nat.le_of_ble_eq_true rfl, Nat.le_of_ble_eq_true rfl⟩) (hnc := ⟨Nat.zero_le _, Nat.zero_le _⟩) (fun r_3 y_3 h_3 => ?_)
  obtain ⟨e_3, ey_3⟩ := h_3
  obtain rfl := ey_3.symm
  obtain rfl : r_3 = 102 := e_3.trans hcd
  refine rm_lkup (off := 33) (tgt := 52) hc dX8_playPart_19 (by decide) (by decide) (by decide) ?_
  refine rm_aload_n hc dX8_playPart_52 rfl rfl ?_
  refine rm_get hc dX8_playPart_53 fl_X8_10 dm_9 rfl rfl ?_
  refine rm_iload_n hc dX8_playPart_56 rfl rfl ?_
  refine rm_calliV (As := [.int (nI (q))]) (rest := []) hc dX8_playPart_57 (c_X6_canPress hI x (k := 0) (j := q) (by omega) (by omega)) mv_X8_65 (dm_0 (by omega)) rfl rfl (hn := rfl) (hst := rfl) (hw := Nat.le_of_ble_eq_true rfl) (hR := ⟨⟨rfl, rfl⟩, Nat.le_of_ble_eq_true rfl, Nat.le_of_ble_eq_true rfl⟩) (hnc := ⟨Nat.zero_le _, Nat.zero_le _⟩) (fun r_4 y_4 h_4 => ?_)
  obtain ⟨e_4, ey_4⟩ := h_4
  obtain rfl := ey_4.symm
  by_cases hbat : x 0 (16 + 4 * q) ≤ 0
  · --
    obtain rfl : r_4 = 0 := by rw [e_4]; exact if_pos hbat
    refine rm_if_ne (tgt := 65) hc dX8_playPart_60 (by decide) (fun h => absurd h (by decide)) (fun _ => ?_)
    refine rm_iconst (v := 0) hc dX8_playPart_63 (by decide) ?_
    exact rm_zret hc dX8_playPart_64 rfl ⟨by rw [pp_f0 hcd hdq hq4 hbat], by rw [pp_f0 hcd hdq hq4 hbat]⟩
  · --
    obtain rfl : r_4 = 1 := by rw [e_4]; exact if_neg hbat
    refine rm_if_ne (tgt := 65) hc dX8_playPart_60 (by decide) (fun _ => ?_) (fun h => absurd h (by decide))
    refine rm_aload_n hc dX8_playPart_65 rfl rfl ?_
    refine rm_get hc dX8_playPart_66 fl_X8_10 dm_9 rfl rfl ?_
    refine rm_iload_n hc dX8_playPart_69 rfl rfl ?_
    refine rm_aload_n hc dX8_playPart_70 rfl rfl ?_
    refine rm_get hc dX8_playPart_71 fl_X8_26 dm_9 rfl rfl ?_
    refine rm_iload_n hc dX8_playPart_74 rfl rfl ?_
    refine rm_iconst (v := 2) hc dX8_playPart_75 (by decide) ?_
    refine rm_iadd hc dX8_playPart_76 (fun v_7 e_7 => ?_)
    obtain rfl : v_7 = (nI (aa + 2)) := e_7.trans (nadd (m := aa) (n := 2) (by omega))
    clear e_7
    refine rm_iload_n hc dX8_playPart_77 rfl rfl ?_
    refine rm_calliV (As := [.int (nI (aa + 2)), .int (nI (bb))]) (rest := [.int (nI (q)), .ref (ad 0 0 0)]) hc dX8_playPart_78 (c_X7_mask hI x (aa := aa + 2) (bb := bb) (by omega) (by omega)) mv_X8_234 dm_12 rfl rfl (hn := rfl) (hst := rfl) (hw := Nat.le_of_ble_eq_true rfl) (hR := ⟨⟨rfl, rfl⟩, Nat.le_of_ble_eq_true rfl, Nat.le_of_ble_eq_true rfl⟩) (hnc := ⟨Nat.zero_le _, Nat.zero_le _⟩) (fun r_8 y_8 h_8 => ?_)
    obtain ⟨e_8, ey_8⟩ := h_8
    obtain rfl := ey_8.symm
    refine rm_calliV (As := [.int (nI (q)), .int r_8]) (rest := []) hc dX8_playPart_81 (c_X6_pressFob hI x (k := 0) (j := q) (by omega) (by omega) r_8 mm (by omega) hw hbat) mv_X8_73 (dm_0 (by omega)) rfl rfl (hn := rfl) (hst := rfl) (hw := Nat.le_of_ble_eq_true rfl) (hR := ⟨⟨rfl, rfl⟩, Nat.le_of_ble_eq_true rfl, Nat.le_of_ble_eq_true rfl⟩) (hnc := ⟨Nat.zero_le _, Nat.zero_le _⟩) (fun r_9 y_9 h_9 => ?_)
    obtain ⟨e_9, ey_9⟩ := h_9
    refine rm_pop hc dX8_playPart_84 rfl ?_
    refine rm_iconst (v := 1) hc dX8_playPart_85 (by decide) ?_
    exact rm_zret hc dX8_playPart_86 rfl ⟨by rw [pp_f1 hcd hdq hq4 hbat], by rw [pp_f1 hcd hdq hq4 hbat]; subst_vars; rfl⟩

set_option maxHeartbeats 4000000 in
set_option maxRecDepth 100000 in
theorem c_X8_playPart_r {l : Launch} {D : va_G} {cy : Nat → ClassId} {ad : Ads} (hI : IJ ad) (x : Mem) {aa bb q nr : Nat} (hab : aa + 2 ≤ bb) (hb6 : bb ≤ 60) (hdq : digS x (nI (aa + 1)) = nI q) (hq4 : q < 8) (hcd : codeS x (nI aa) = 114) (mm : Nat) (hmm : mm < 2 ^ 30) (hw : x 0 1 = nI mm) (hnr : x 0 5 = nI nr) (hr8 : nr ≤ 8) : Cti l yX8_playPart cX8_playPart 4 (some .boolean) rm_X8_playPart D cy ad [.ref (ad 8 9 0), .int (nI (aa)), .int (nI (bb))] x (fun r y => r = (ppS x aa bb mm).1 ∧ y = (ppS x aa bb mm).2) := by
  refine rm_entry (Qc := Qi D cy ad (fun r y => r = (ppS x aa bb mm).1 ∧ y = (ppS x aa bb mm).2)) hI (by decide) (Nat.le_of_ble_eq_true rfl) ?_
  intro p e s m args below meth c hc
  show RM _ _ _ _ _ _ _ _ _ _ _ _ _ _ _ _ _ [(0, .ref (ad 8 9 0)), (1, .int (nI (aa))), (2, .int (nI (bb)))] []
  refine rm_aload_n hc dX8_playPart_0 rfl rfl ?_
  refine rm_get hc dX8_playPart_1 fl_X8_26 dm_9 rfl rfl ?_
  refine rm_iload_n hc dX8_playPart_4 rfl rfl ?_
  refine rm_iconst (v := 1) hc dX8_playPart_5 (by decide) ?_
  refine rm_iadd hc dX8_playPart_6 (fun v_1 e_1 => ?_)
  obtain rfl : v_1 = (nI (aa + 1)) := e_1.trans (nadd (m := aa) (n := 1) (by omega))
  clear e_1
  refine rm_calliV (As := [.int (nI (aa + 1))]) (rest := []) hc dX8_playPart_7 (c_X7_digit hI x (nI (aa + 1))) mv_X8_231 dm_12 rfl rfl (hn := rfl) (hst := rfl) (hw := Nat.le_of_ble_eq_true rfl) (hR := ⟨⟨rfl, rfl⟩, Nat.le_of_ble_eq_true rfl, Nat.le_of_ble_eq_true rfl⟩) (hnc := ⟨Nat.zero_le _, Nat.zero_le _⟩) (fun r_2 y_2 h_2 => ?_)
  obtain ⟨e_2, ey_2⟩ := h_2
  obtain rfl := ey_2.symm
  obtain rfl : r_2 = nI q := e_2.trans hdq
  refine rm_istore_n (ls' := [(0, .ref (ad 8 9 0)), (1, .int (nI (aa))), (2, .int (nI (bb))), (3, .int (nI (q)))]) hc dX8_playPart_10 rfl (by decide) rfl ?_
  refine rm_aload_n hc dX8_playPart_11 rfl rfl ?_
  refine rm_get hc dX8_playPart_12 fl_X8_26 dm_9 rfl rfl ?_
  refine rm_iload_n hc dX8_playPart_15 rfl rfl ?_
  refine rm_calliV (As := [.int (nI (aa))]) (rest := []) hc dX8_playPart_16 (c_X7_code hI x (nI (aa))) mv_X8_218 dm_12 rfl rfl (hn := rfl) (hst := rfl) (hw := Nat.le_of_ble_eq_true rfl) (hR := ⟨⟨rfl, rfl⟩, Nat.le_of_ble_eq_true rfl, Nat.le_of_ble_eq_true rfl⟩) (hnc := ⟨Nat.zero_le _, Nat.zero_le _⟩) (fun r_3 y_3 h_3 => ?_)
  obtain ⟨e_3, ey_3⟩ := h_3
  obtain rfl := ey_3.symm
  obtain rfl : r_3 = 114 := e_3.trans hcd
  refine rm_lkup (off := 68) (tgt := 87) hc dX8_playPart_19 (by decide) (by decide) (by decide) ?_
  refine rm_aload_n hc dX8_playPart_87 rfl rfl ?_
  refine rm_get hc dX8_playPart_88 fl_X8_10 dm_9 rfl rfl ?_
  refine rm_iload_n hc dX8_playPart_91 rfl rfl ?_
  refine rm_calliV (As := [.int (nI (q))]) (rest := []) hc dX8_playPart_92 (c_X6_canSendAgain hI x (k := 0) (ii := q) (nr := nr) (by omega) hnr (by omega) (by omega)) mv_X8_237 (dm_0 (by omega)) rfl rfl (hn := rfl) (hst := rfl) (hw := Nat.le_of_ble_eq_true rfl) (hR := ⟨⟨rfl, rfl⟩, Nat.le_of_ble_eq_true rfl, Nat.le_of_ble_eq_true rfl⟩) (hnc := ⟨Nat.zero_le _, Nat.zero_le _⟩) (fun r_4 y_4 h_4 => ?_)
  obtain ⟨e_4, ey_4⟩ := h_4
  obtain rfl := ey_4.symm
  by_cases hlt : q < nr
  · --
    obtain rfl : r_4 = 1 := by rw [e_4]; exact if_pos hlt
    refine rm_if_ne (tgt := 100) hc dX8_playPart_95 (by decide) (fun _ => ?_) (fun h => absurd h (by decide))
    refine rm_aload_n hc dX8_playPart_100 rfl rfl ?_
    refine rm_get hc dX8_playPart_101 fl_X8_10 dm_9 rfl rfl ?_
    refine rm_iload_n hc dX8_playPart_104 rfl rfl ?_
    refine rm_aload_n hc dX8_playPart_105 rfl rfl ?_
    refine rm_get hc dX8_playPart_106 fl_X8_26 dm_9 rfl rfl ?_
    refine rm_iload_n hc dX8_playPart_109 rfl rfl ?_
    refine rm_iconst (v := 2) hc dX8_playPart_110 (by decide) ?_
    refine rm_iadd hc dX8_playPart_111 (fun v_6 e_6 => ?_)
    obtain rfl : v_6 = (nI (aa + 2)) := e_6.trans (nadd (m := aa) (n := 2) (by omega))
    clear e_6
    refine rm_iload_n hc dX8_playPart_112 rfl rfl ?_
    refine rm_calliV (As := [.int (nI (aa + 2)), .int (nI (bb))]) (rest := [.int (nI (q)), .ref (ad 0 0 0)]) hc dX8_playPart_113 (c_X7_mask hI x (aa := aa + 2) (bb := bb) (by omega) (by omega)) mv_X8_234 dm_12 rfl rfl (hn := rfl) (hst := rfl) (hw := Nat.le_of_ble_eq_true rfl) (hR := ⟨⟨rfl, rfl⟩, Nat.le_of_ble_eq_true rfl, Nat.le_of_ble_eq_true rfl⟩) (hnc := ⟨Nat.zero_le _, Nat.zero_le _⟩) (fun r_7 y_7 h_7 => ?_)
    obtain ⟨e_7, ey_7⟩ := h_7
    obtain rfl := ey_7.symm
    refine rm_calliV (As := [.int (nI (q)), .int r_7]) (rest := []) hc dX8_playPart_116 (c_X6_sendAgain hI x (ii := q) (nr := nr) hlt (by omega) hnr r_7 mm (by omega) hw) mv_X8_86 (dm_0 (by omega)) rfl rfl (hn := rfl) (hst := rfl) (hw := Nat.le_of_ble_eq_true rfl) (hR := ⟨⟨rfl, rfl⟩, Nat.le_of_ble_eq_true rfl, Nat.le_of_ble_eq_true rfl⟩) (hnc := ⟨Nat.zero_le _, Nat.zero_le _⟩) (fun r_8 y_8 h_8 => ?_)
    obtain ⟨e_8, ey_8⟩ := h_8
    refine rm_pop hc dX8_playPart_119 rfl ?_
    refine rm_iconst (v := 1) hc dX8_playPart_120 (by decide) ?_
    exact rm_zret hc dX8_playPart_121 rfl ⟨by rw [pp_r1 hcd hdq hq4 hnr hr8 hlt], by rw [pp_r1 hcd hdq hq4 hnr hr8 hlt]; subst_vars; rfl⟩
  · --
    obtain rfl : r_4 = 0 := by rw [e_4]; exact if_neg hlt
    refine rm_if_ne (tgt := 100) hc dX8_playPart_95 (by decide) (fun h => absurd h (by decide)) (fun _ => ?_)
    refine rm_iconst (v := 0) hc dX8_playPart_98 (by decide) ?_
    exact rm_zret hc dX8_playPart_99 rfl ⟨by rw [pp_r0 hcd hdq hq4 hnr hr8 hlt], by rw [pp_r0 hcd hdq hq4 hnr hr8 hlt]⟩

set_option maxHeartbeats 4000000 in
set_option maxRecDepth 100000 in
theorem c_X8_playPart_c {l : Launch} {D : va_G} {cy : Nat → ClassId} {ad : Ads} (hI : IJ ad) (x : Mem) {aa bb q nr : Nat} (hab : aa + 2 ≤ bb) (hb6 : bb ≤ 60) (hdq : digS x (nI (aa + 1)) = nI q) (hq4 : q < 3) (hcd : codeS x (nI aa) = 99) (mm : Nat) (hmm : mm < 2 ^ 30) (hw : x 0 1 = nI mm) (hnr : x 0 5 = nI nr) (hr8 : nr ≤ 8) : Cti l yX8_playPart cX8_playPart 4 (some .boolean) rm_X8_playPart D cy ad [.ref (ad 8 9 0), .int (nI (aa)), .int (nI (bb))] x (fun r y => r = (ppS x aa bb mm).1 ∧ y = (ppS x aa bb mm).2) := by
  refine rm_entry (Qc := Qi D cy ad (fun r y => r = (ppS x aa bb mm).1 ∧ y = (ppS x aa bb mm).2)) hI (by decide) (Nat.le_of_ble_eq_true rfl) ?_
  intro p e s m args below meth c hc
  show RM _ _ _ _ _ _ _ _ _ _ _ _ _ _ _ _ _ [(0, .ref (ad 8 9 0)), (1, .int (nI (aa))), (2, .int (nI (bb)))] []
  refine rm_aload_n hc dX8_playPart_0 rfl rfl ?_
  refine rm_get hc dX8_playPart_1 fl_X8_26 dm_9 rfl rfl ?_
  refine rm_iload_n hc dX8_playPart_4 rfl rfl ?_
  refine rm_iconst (v := 1) hc dX8_playPart_5 (by decide) ?_
  refine rm_iadd hc dX8_playPart_6 (fun v_1 e_1 => ?_)
  obtain rfl : v_1 = (nI (aa + 1)) := e_1.trans (nadd (m := aa) (n := 1) (by omega))
  clear e_1
  refine rm_calliV (As := [.int (nI (aa + 1))]) (rest := []) hc dX8_playPart_7 (c_X7_digit hI x (nI (aa + 1))) mv_X8_231 dm_12 rfl rfl (hn := rfl) (hst := rfl) (hw := Nat.le_of_ble_eq_true rfl) (hR := ⟨⟨rfl, rfl⟩, Nat.le_of_ble_eq_true rfl, Nat.le_of_ble_eq_true rfl⟩) (hnc := ⟨Nat.zero_le _, Nat.zero_le _⟩) (fun r_2 y_2 h_2 => ?_)
  obtain ⟨e_2, ey_2⟩ := h_2
  obtain rfl := ey_2.symm
  obtain rfl : r_2 = nI q := e_2.trans hdq
  refine rm_istore_n (ls' := [(0, .ref (ad 8 9 0)), (1, .int (nI (aa))), (2, .int (nI (bb))), (3, .int (nI (q)))]) hc dX8_playPart_10 rfl (by decide) rfl ?_
  refine rm_aload_n hc dX8_playPart_11 rfl rfl ?_
  refine rm_get hc dX8_playPart_12 fl_X8_26 dm_9 rfl rfl ?_
  refine rm_iload_n hc dX8_playPart_15 rfl rfl ?_
  refine rm_calliV (As := [.int (nI (aa))]) (rest := []) hc dX8_playPart_16 (c_X7_code hI x (nI (aa))) mv_X8_218 dm_12 rfl rfl (hn := rfl) (hst := rfl) (hw := Nat.le_of_ble_eq_true rfl) (hR := ⟨⟨rfl, rfl⟩, Nat.le_of_ble_eq_true rfl, Nat.le_of_ble_eq_true rfl⟩) (hnc := ⟨Nat.zero_le _, Nat.zero_le _⟩) (fun r_3 y_3 h_3 => ?_)
  obtain ⟨e_3, ey_3⟩ := h_3
  obtain rfl := ey_3.symm
  obtain rfl : r_3 = 99 := e_3.trans hcd
  refine rm_lkup (off := 103) (tgt := 122) hc dX8_playPart_19 (by decide) (by decide) (by decide) ?_
  refine rm_aload_n hc dX8_playPart_122 rfl rfl ?_
  refine rm_get hc dX8_playPart_123 fl_X8_10 dm_9 rfl rfl ?_
  refine rm_iload_n hc dX8_playPart_126 rfl rfl ?_
  refine rm_calliV (As := [.int (nI (q))]) (rest := []) hc dX8_playPart_127 (c_X6_shutDoor hI x (k := 0) (dd := q) (by omega) (by omega)) mv_X8_240 (dm_0 (by omega)) rfl rfl (hn := rfl) (hst := rfl) (hw := Nat.le_of_ble_eq_true rfl) (hR := ⟨⟨rfl, rfl⟩, Nat.le_of_ble_eq_true rfl, Nat.le_of_ble_eq_true rfl⟩) (hnc := ⟨Nat.zero_le _, Nat.zero_le _⟩) (fun r_4 y_4 h_4 => ?_)
  obtain ⟨e_4, ey_4⟩ := h_4
  exact rm_zret hc dX8_playPart_130 (nrb (Or.inr e_4)) ⟨by rw [pp_c hcd hdq hq4]; exact e_4, by rw [pp_c hcd hdq hq4]; exact ey_4⟩
