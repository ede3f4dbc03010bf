abbrev rm_L_yard : Room := { frames := 9, cells := 0, slots := 0, locals := 155 }
set_option maxHeartbeats 4000000 in
set_option maxRecDepth 100000 in
theorem c_L_yard {l : Launch} {D : va_G} {cy : Nat → ClassId} {ad : Ads} (hI : IJ ad) (x : Mem) {mm B : Nat} (hc0 : CV (x 0) mm B) (hB : 3 * B < 2 ^ 20) : Cti l yL_yard cL_yard 10 (some .boolean) rm_L_yard D cy ad [.ref (ad 8 9 0)] x (fun r y => r = 1 ∧ E7 x y) := by
  have hF := hc0.flg
  obtain ⟨oa, os, ow, hos9, hsw, hoa, hos, hs1, hs2⟩ := cv_cnt hc0 hB
  obtain ⟨nr, hr8, hnr, har⟩ := hc0.1.2.2.2.2.2.2.1
  have hw : x 0 1 = nI mm := hc0.1.2.2.2.2.2.2.2.1
  have hmm : mm ≤ 500 := hc0.1.2.2.2.2.2.2.2.2.1
  refine rm_entry (Qc := Qi D cy ad (fun r y => r = 1 ∧ E7 x y)) hI (by decide) (Nat.le_of_ble_eq_true rfl) ?_
  intro p e s m args below meth c hc
  show RM _ _ _ _ _ _ _ _ _ _ _ _ _ _ _ _ _ [(0, .ref (ad 8 9 0))] []
  refine rm_iconst (v := 0) hc dL_yard_0 (by decide) ?_
  refine rm_istore_n (ls' := [(0, .ref (ad 8 9 0)), (1, .int 0)]) hc dL_yard_1 rfl (by decide) rfl ?_
  refine rm_iconst (v := 0) hc dL_yard_2 (by decide) ?_
  refine rm_istore_n (ls' := [(0, .ref (ad 8 9 0)), (1, .int 0), (2, .int 0)]) hc dL_yard_3 rfl (by decide) rfl ?_
  refine rm_iconst (v := 0) hc dL_yard_4 (by decide) ?_
  refine rm_istore_n (ls' := [(0, .ref (ad 8 9 0)), (1, .int 0), (2, .int 0), (3, .int 0)]) hc dL_yard_5 rfl (by decide) rfl ?_
  refine rm_iconst (v := 0) hc dL_yard_6 (by decide) ?_
  refine rm_istore (ls' := [(0, .ref (ad 8 9 0)), (1, .int 0), (2, .int 0), (3, .int 0), (4, .int 0)]) hc dL_yard_7 (by decide) rfl ?_
  refine rm_aload_n hc dL_yard_9 rfl rfl ?_
  refine rm_iconst (v := 3) hc dL_yard_10 (by decide) ?_
  refine rm_calliV (As := [.int 3]) (rest := []) hc dL_yard_11 (c_X8_count hI x 3 (by decide) (by decide)) mv_L_26 dm_9 rfl rfl (hn := rfl) (hst := rfl) (hw := Nat.le_of_ble_eq_true rfl) (hR := ⟨⟨rfl, rfl⟩, Nat.le_of_ble_eq_true rfl, Nat.le_of_ble_eq_true rfl⟩) (hnc := ⟨Nat.zero_le _, Nat.zero_le _⟩) (fun r_1 y_1 h_1 => ?_)
  obtain ⟨e_1, ey_1⟩ := h_1
  obtain rfl := ey_1.symm
  obtain rfl : r_1 = nI oa := e_1.trans ((cnt_e (E7.rf x)).trans ((cnt_3 x).trans hoa))
  refine rm_aload_n hc dL_yard_14 rfl rfl ?_
  refine rm_iconst (v := 2) hc dL_yard_15 (by decide) ?_
  refine rm_calliV (As := [.int 2]) (rest := [.int (nI (oa))]) hc dL_yard_16 (c_X8_count hI x 2 (by decide) (by decide)) mv_L_26 dm_9 rfl rfl (hn := rfl) (hst := rfl) (hw := Nat.le_of_ble_eq_true rfl) (hR := ⟨⟨rfl, rfl⟩, Nat.le_of_ble_eq_true rfl, Nat.le_of_ble_eq_true rfl⟩) (hnc := ⟨Nat.zero_le _, Nat.zero_le _⟩) (fun r_2 y_2 h_2 => ?_)
  obtain ⟨e_2, ey_2⟩ := h_2
  obtain rfl := ey_2.symm
  obtain rfl : r_2 = nI os := e_2.trans ((cnt_e (E7.rf x)).trans ((cnt_2 x).trans hos))
  refine rm_icmp_gt (tgt := 51) hc dL_yard_19 (by decide) (fun h => absurd h (fun h2 => absurd ((nI_ltI (a := os) (b := oa) (by omega) (by omega)).mp h2) (by omega))) (fun _ => ?_)
  refine rm_aload_n hc dL_yard_22 rfl rfl ?_
  refine rm_bipush (v := 6) hc dL_yard_23 (by decide) ?_
  refine rm_calliV (As := [.int 6]) (rest := []) hc dL_yard_25 (c_X8_count hI x 6 (by decide) (by decide)) mv_L_26 dm_9 rfl rfl (hn := rfl) (hst := rfl) (hw := Nat.le_of_ble_eq_true rfl) (hR := ⟨⟨rfl, rfl⟩, Nat.le_of_ble_eq_true rfl, Nat.le_of_ble_eq_true rfl⟩) (hnc := ⟨Nat.zero_le _, Nat.zero_le _⟩) (fun r_4 y_4 h_4 => ?_)
  obtain ⟨e_4, ey_4⟩ := h_4
  obtain rfl := ey_4.symm
  obtain rfl : r_4 = nI nr := e_4.trans ((cnt_e (E7.rf x)).trans ((cnt_6 x).trans hnr))
  refine rm_bipush (v := 8) hc dL_yard_28 (by decide) ?_
  refine rm_icmp_gt (tgt := 51) hc dL_yard_30 (by decide) (fun h => absurd h (fun h2 => absurd ((nI_ltI (a := 8) (b := nr) (by omega) (by omega)).mp h2) (by omega))) (fun _ => ?_)
  refine rm_aload_n hc dL_yard_33 rfl rfl ?_
  refine rm_aload_n hc dL_yard_34 rfl rfl ?_
  refine rm_bipush (v := 6) hc dL_yard_35 (by decide) ?_
  refine rm_calliV (As := [.int 6]) (rest := [.ref (ad 8 9 0)]) hc dL_yard_37 (c_X8_count hI x 6 (by decide) (by decide)) mv_L_26 dm_9 rfl rfl (hn := rfl) (hst := rfl) (hw := Nat.le_of_ble_eq_true rfl) (hR := ⟨⟨rfl, rfl⟩, Nat.le_of_ble_eq_true rfl, Nat.le_of_ble_eq_true rfl⟩) (hnc := ⟨Nat.zero_le _, Nat.zero_le _⟩) (fun r_6 y_6 h_6 => ?_)
  obtain ⟨e_6, ey_6⟩ := h_6
  obtain rfl := ey_6.symm
  obtain rfl : r_6 = nI nr := e_6.trans ((cnt_e (E7.rf x)).trans ((cnt_6 x).trans hnr))
  refine rm_calliV (As := [.int (nI (nr))]) (rest := []) hc dL_yard_40 (c_X8_air hI x (nI (nr)) (nn_nI (by omega))) mv_L_30 dm_9 rfl rfl (hn := rfl) (hst := rfl) (hw := Nat.le_of_ble_eq_true rfl) (hR := ⟨⟨rfl, rfl⟩, Nat.le_of_ble_eq_true rfl, Nat.le_of_ble_eq_true rfl⟩) (hnc := ⟨Nat.zero_le _, Nat.zero_le _⟩) (fun r_7 y_7 h_7 => ?_)
  obtain ⟨e_7, ey_7⟩ := h_7
  obtain rfl := ey_7.symm
  obtain rfl : r_7 = (-1) := e_7.trans ((E7.rf x).num.trans (num_o (Nat.lt_irrefl _) hr8 hnr (by omega)))
  refine rm_iconst (v := -1) hc dL_yard_43 (by decide) ?_
  refine rm_icmp_ne (tgt := 51) hc dL_yard_44 (by decide) (fun h => absurd h (by decide)) (fun _ => ?_)
  refine rm_iconst (v := 1) hc dL_yard_47 (by decide) ?_
  refine rm_goto (tgt := 52) hc dL_yard_48 (by decide) ?_
  refine rm_istore (ls' := [(0, .ref (ad 8 9 0)), (1, .int 0), (2, .int 0), (3, .int 0), (4, .int 0), (5, .int 1)]) hc dL_yard_52 (by decide) rfl ?_
  refine rm_iconst (v := 0) hc dL_yard_54 (by decide) ?_
  refine rm_istore (ls' := [(0, .ref (ad 8 9 0)), (1, .int 0), (2, .int 0), (3, .int 0), (4, .int 0), (5, .int 1), (6, .int 0)]) hc dL_yard_55 (by decide) rfl ?_
  have keyA : ∀ (fA : Nat) (ka : Nat), ka + fA = nr → RM p l e rm_L_yard s m args below meth c 10 (AA ad s.heap.size) (GG D cy ad x) 0 0 (QQ (Qi D cy ad (fun r y => r = 1 ∧ E7 x y)) below args s ad) 57 [(0, .ref (ad 8 9 0)), (1, .int 0), (2, .int 0), (3, .int 0), (4, .int 0), (5, .int 1), (6, .int (nI (ka)))] [] := by
    intro fA
    induction fA with
    | zero =>
      intro ka hka
      refine rm_iload hc dL_yard_57 rfl ?_
      refine rm_aload_n hc dL_yard_59 rfl rfl ?_
      refine rm_bipush (v := 6) hc dL_yard_60 (by decide) ?_
      refine rm_calliV (As := [.int 6]) (rest := [.int (nI (ka))]) hc dL_yard_62 (c_X8_count hI x 6 (by decide) (by decide)) mv_L_26 dm_9 rfl rfl (hn := rfl) (hst := rfl) (hw := Nat.le_of_ble_eq_true rfl) (hR := ⟨⟨rfl, rfl⟩, Nat.le_of_ble_eq_true rfl, Nat.le_of_ble_eq_true rfl⟩) (hnc := ⟨Nat.zero_le _, Nat.zero_le _⟩) (fun r_9 y_9 h_9 => ?_)
      obtain ⟨e_9, ey_9⟩ := h_9
      obtain rfl := ey_9.symm
      obtain rfl : r_9 = nI nr := e_9.trans ((cnt_e (E7.rf x)).trans ((cnt_6 x).trans hnr))
      refine rm_icmp_ge (tgt := 106) hc dL_yard_65 (by decide) (fun _ => ?_) (fun h => absurd ((nI_leI (a := nr) (b := ka) (by omega) (by omega)).mpr (by omega)) h)
      refine rm_iconst (v := 0) hc dL_yard_106 (by decide) ?_
      refine rm_istore (ls' := [(0, .ref (ad 8 9 0)), (1, .int 0), (2, .int 0), (3, .int 0), (4, .int 0), (5, .int 1), (6, .int 0)]) hc dL_yard_107 (by decide) rfl ?_
      have keyB : ∀ (fB : Nat) (kb : Nat), kb + fB = 4 → RM p l e rm_L_yard s m args below meth c 10 (AA ad s.heap.size) (GG D cy ad x) 0 0 (QQ (Qi D cy ad (fun r y => r = 1 ∧ E7 x y)) below args s ad) 109 [(0, .ref (ad 8 9 0)), (1, .int (ps (pf x) kb)), (2, .int 0), (3, .int 0), (4, .int 0), (5, .int 1), (6, .int (nI (kb)))] [] := by
        intro fB
        induction fB with
        | zero =>
          intro kb hkb
          refine rm_iload hc dL_yard_109 rfl ?_
          refine rm_iconst (v := 4) hc dL_yard_111 (by decide) ?_
          refine rm_icmp_ge (tgt := 131) hc dL_yard_112 (by decide) (fun _ => ?_) (fun h => absurd ((nI_leI (a := 4) (b := kb) (by omega) (by omega)).mpr (by omega)) h)
          refine rm_iconst (v := 0) hc dL_yard_131 (by decide) ?_
          refine rm_istore (ls' := [(0, .ref (ad 8 9 0)), (1, .int (ps (pf x) kb)), (2, .int 0), (3, .int 0), (4, .int 0), (5, .int 1), (6, .int 0)]) hc dL_yard_132 (by decide) rfl ?_
          have keyC : ∀ (fC : Nat) (dd : Nat) (zm : Mem), dd + fC = 3 → E7 x zm → RM p l e rm_L_yard s m args below meth c 10 (AA ad s.heap.size) (GG D cy ad zm) 0 0 (QQ (Qi D cy ad (fun r y => r = 1 ∧ E7 x y)) below args s ad) 134 [(0, .ref (ad 8 9 0)), (1, .int (ps (pf x) 4)), (2, .int (ps (po x) dd)), (3, .int (ps (pn x) dd)), (4, .int (ps (pl x) dd)), (5, .int 1), (6, .int (nI (dd)))] [] := by
            intro fC
            induction fC with
            | zero =>
              intro dd zm hdd hE
              refine rm_iload hc dL_yard_134 rfl ?_
              refine rm_iconst (v := 3) hc dL_yard_136 (by decide) ?_
              refine rm_icmp_ge (tgt := 474) hc dL_yard_137 (by decide) (fun _ => ?_) (fun h => absurd ((nI_leI (a := 3) (b := dd) (by omega) (by omega)).mpr (by omega)) h)
              refine rm_iload hc dL_yard_474 rfl ?_
              refine rm_if_eq (tgt := 538) hc dL_yard_476 (by decide) (fun h => absurd h (by decide)) (fun _ => ?_)
              refine rm_iload_n hc dL_yard_479 rfl rfl ?_
              refine rm_aload_n hc dL_yard_480 rfl rfl ?_
              refine rm_iconst (v := 0) hc dL_yard_481 (by decide) ?_
              refine rm_calliV (As := [.int 0]) (rest := [.int (ps (pf x) 4)]) hc dL_yard_482 (c_X8_count hI zm 0 (by decide) (by decide)) mv_L_26 dm_9 rfl rfl (hn := rfl) (hst := rfl) (hw := Nat.le_of_ble_eq_true rfl) (hR := ⟨⟨rfl, rfl⟩, Nat.le_of_ble_eq_true rfl, Nat.le_of_ble_eq_true rfl⟩) (hnc := ⟨Nat.zero_le _, Nat.zero_le _⟩) (fun r_14 y_14 h_14 => ?_)
              obtain ⟨e_14, ey_14⟩ := h_14
              obtain rfl := ey_14.symm
              obtain rfl : r_14 = (ps (pf x) 4) := e_14.trans ((cnt_e hE).trans (cnt_0 x))
              refine rm_icmp_ne (tgt := 538) hc dL_yard_485 (by decide) (fun h => absurd rfl h) (fun _ => ?_)
              refine rm_iload_n hc dL_yard_488 rfl rfl ?_
              refine rm_aload_n hc dL_yard_489 rfl rfl ?_
              refine rm_iconst (v := 2) hc dL_yard_490 (by decide) ?_
              refine rm_calliV (As := [.int 2]) (rest := [.int (ps (po x) dd)]) hc dL_yard_491 (c_X8_count hI zm 2 (by decide) (by decide)) mv_L_26 dm_9 rfl rfl (hn := rfl) (hst := rfl) (hw := Nat.le_of_ble_eq_true rfl) (hR := ⟨⟨rfl, rfl⟩, Nat.le_of_ble_eq_true rfl, Nat.le_of_ble_eq_true rfl⟩) (hnc := ⟨Nat.zero_le _, Nat.zero_le _⟩) (fun r_16 y_16 h_16 => ?_)
              obtain ⟨e_16, ey_16⟩ := h_16
              obtain rfl := ey_16.symm
              obtain rfl : r_16 = (ps (po x) 3) := e_16.trans ((cnt_e hE).trans (cnt_2 x))
              refine rm_icmp_ne (tgt := 538) hc dL_yard_494 (by decide) (fun h => absurd (by rw [show dd = 3 by omega]) h) (fun _ => ?_)
              refine rm_iload_n hc dL_yard_497 rfl rfl ?_
              refine rm_aload_n hc dL_yard_498 rfl rfl ?_
              refine rm_iconst (v := 4) hc dL_yard_499 (by decide) ?_
              refine rm_calliV (As := [.int 4]) (rest := [.int (ps (pn x) dd)]) hc dL_yard_500 (c_X8_count hI zm 4 (by decide) (by decide)) mv_L_26 dm_9 rfl rfl (hn := rfl) (hst := rfl) (hw := Nat.le_of_ble_eq_true rfl) (hR := ⟨⟨rfl, rfl⟩, Nat.le_of_ble_eq_true rfl, Nat.le_of_ble_eq_true rfl⟩) (hnc := ⟨Nat.zero_le _, Nat.zero_le _⟩) (fun r_18 y_18 h_18 => ?_)
              obtain ⟨e_18, ey_18⟩ := h_18
              obtain rfl := ey_18.symm
              obtain rfl : r_18 = (ps (pn x) 3) := e_18.trans ((cnt_e hE).trans (cnt_4 x))
              refine rm_icmp_ne (tgt := 538) hc dL_yard_503 (by decide) (fun h => absurd (by rw [show dd = 3 by omega]) h) (fun _ => ?_)
              refine rm_iload hc dL_yard_506 rfl ?_
              refine rm_aload_n hc dL_yard_508 rfl rfl ?_
              refine rm_iconst (v := 5) hc dL_yard_509 (by decide) ?_
              refine rm_calliV (As := [.int 5]) (rest := [.int (ps (pl x) dd)]) hc dL_yard_510 (c_X8_count hI zm 5 (by decide) (by decide)) mv_L_26 dm_9 rfl rfl (hn := rfl) (hst := rfl) (hw := Nat.le_of_ble_eq_true rfl) (hR := ⟨⟨rfl, rfl⟩, Nat.le_of_ble_eq_true rfl, Nat.le_of_ble_eq_true rfl⟩) (hnc := ⟨Nat.zero_le _, Nat.zero_le _⟩) (fun r_20 y_20 h_20 => ?_)
              obtain ⟨e_20, ey_20⟩ := h_20
              obtain rfl := ey_20.symm
              obtain rfl : r_20 = (ps (pl x) 3) := e_20.trans ((cnt_e hE).trans (cnt_5 x))
              refine rm_icmp_ne (tgt := 538) hc dL_yard_513 (by decide) (fun h => absurd (by rw [show dd = 3 by omega]) h) (fun _ => ?_)
              refine rm_aload_n hc dL_yard_516 rfl rfl ?_
              refine rm_calldV (As := []) (rest := []) hc dL_yard_517 (c_X8_openShare hI zm (oa := os) (ow := ow) (by rw [hE 0 (by omega)]; exact hs1) (by rw [hE 0 (by omega)]; exact hs2) hsw) mv_L_53 dm_9 rfl rfl (hn := rfl) (hst := rfl) (hw := Nat.le_of_ble_eq_true rfl) (hR := ⟨⟨rfl, rfl⟩, Nat.le_of_ble_eq_true rfl, Nat.le_of_ble_eq_true rfl⟩) (hnc := ⟨Nat.zero_le _, Nat.zero_le _⟩) (fun r_22 y_22 h_22 => ?_)
              obtain ⟨e_22, ey_22⟩ := h_22
              obtain rfl := ey_22.symm
              obtain rfl : r_22 = shrS os ow := e_22
              refine rm_dconst0 hc dL_yard_520 ?_
              refine rm_dcmp hc dL_yard_521 (fun v_23 e_23 => ?_)
              refine rm_if_lt (tgt := 538) hc dL_yard_522 (by decide) (fun h => absurd h (by rw [e_23]; exact shr_ge hsw _)) (fun _ => ?_)
              refine rm_aload_n hc dL_yard_525 rfl rfl ?_
              refine rm_calldV (As := []) (rest := []) hc dL_yard_526 (c_X8_openShare hI zm (oa := os) (ow := ow) (by rw [hE 0 (by omega)]; exact hs1) (by rw [hE 0 (by omega)]; exact hs2) hsw) mv_L_53 dm_9 rfl rfl (hn := rfl) (hst := rfl) (hw := Nat.le_of_ble_eq_true rfl) (hR := ⟨⟨rfl, rfl⟩, Nat.le_of_ble_eq_true rfl, Nat.le_of_ble_eq_true rfl⟩) (hnc := ⟨Nat.zero_le _, Nat.zero_le _⟩) (fun r_25 y_25 h_25 => ?_)
              obtain ⟨e_25, ey_25⟩ := h_25
              obtain rfl := ey_25.symm
              obtain rfl : r_25 = shrS os ow := e_25
              refine rm_dconst1 hc dL_yard_529 ?_
              refine rm_dcmp hc dL_yard_530 (fun v_26 e_26 => ?_)
              refine rm_if_gt (tgt := 538) hc dL_yard_531 (by decide) (fun h => absurd h (by rw [e_26]; exact shr_le hsw)) (fun _ => ?_)
              refine rm_iconst (v := 1) hc dL_yard_534 (by decide) ?_
              refine rm_goto (tgt := 539) hc dL_yard_535 (by decide) ?_
              exact rm_zret hc dL_yard_539 rfl ⟨rfl, hE⟩
            | succ fC ihC =>
              intro dd zm hdd hE
              refine rm_iload hc dL_yard_134 rfl ?_
              refine rm_iconst (v := 3) hc dL_yard_136 (by decide) ?_
              refine rm_icmp_ge (tgt := 474) hc dL_yard_137 (by decide) (fun h => absurd h (fun h2 => absurd ((nI_leI (a := 3) (b := dd) (by omega) (by omega)).mp h2) (by omega))) (fun _ => ?_)
              refine rm_iload hc dL_yard_140 rfl ?_
              refine rm_if_eq (tgt := 474) hc dL_yard_142 (by decide) (fun h => absurd h (by decide)) (fun _ => ?_)
              refine rm_iconst (v := 0) hc dL_yard_145 (by decide) ?_
              refine rm_istore (ls' := [(0, .ref (ad 8 9 0)), (1, .int (ps (pf x) 4)), (2, .int (ps (po x) dd)), (3, .int (ps (pn x) dd)), (4, .int (ps (pl x) dd)), (5, .int 1), (6, .int (nI (dd))), (7, .int 0)]) hc dL_yard_146 (by decide) rfl ?_
              refine rm_iconst (v := 0) hc dL_yard_148 (by decide) ?_
              refine rm_istore (ls' := [(0, .ref (ad 8 9 0)), (1, .int (ps (pf x) 4)), (2, .int (ps (po x) dd)), (3, .int (ps (pn x) dd)), (4, .int (ps (pl x) dd)), (5, .int 1), (6, .int (nI (dd))), (7, .int 0), (8, .int 0)]) hc dL_yard_149 (by decide) rfl ?_
              have keyD : ∀ (fD : Nat) (sd : Nat), sd + fD = 4 → RM p l e rm_L_yard s m args below meth c 10 (AA ad s.heap.size) (GG D cy ad zm) 0 0 (QQ (Qi D cy ad (fun r y => r = 1 ∧ E7 x y)) below args s ad) 151 [(0, .ref (ad 8 9 0)), (1, .int (ps (pf x) 4)), (2, .int (ps (po x) dd)), (3, .int (ps (pn x) dd)), (4, .int (ps (pl x) dd)), (5, .int 1), (6, .int (nI (dd))), (7, .int (ps (ql x dd) sd)), (8, .int (nI (sd)))] [] := by
                intro fD
                induction fD with
                | zero =>
                  intro sd hsd
                  refine rm_iload hc dL_yard_151 rfl ?_
                  refine rm_iconst (v := 4) hc dL_yard_153 (by decide) ?_
                  refine rm_icmp_ge (tgt := 283) hc dL_yard_154 (by decide) (fun _ => ?_) (fun h => absurd ((nI_leI (a := 4) (b := sd) (by omega) (by omega)).mpr (by omega)) h)
                  refine rm_iload_n hc dL_yard_283 rfl rfl ?_
                  refine rm_aload_n hc dL_yard_284 rfl rfl ?_
                  refine rm_iload hc dL_yard_285 rfl ?_
                  refine rm_iconst (v := 4) hc dL_yard_287 (by decide) ?_
                  refine rm_calliV (As := [.int (nI (dd)), .int 4]) (rest := [.int (ps (po x) dd)]) hc dL_yard_288 (c_X8_door hI zm (d := dd) (by omega) 4 (by decide) (by decide)) mv_L_41 dm_9 rfl rfl (hn := rfl) (hst := rfl) (hw := Nat.le_of_ble_eq_true rfl) (hR := ⟨⟨rfl, rfl⟩, Nat.le_of_ble_eq_true rfl, Nat.le_of_ble_eq_true rfl⟩) (hnc := ⟨Nat.zero_le _, Nat.zero_le _⟩) (fun r_31 y_31 h_31 => ?_)
                  obtain ⟨e_31, ey_31⟩ := h_31
                  obtain rfl := ey_31.symm
                  obtain rfl : r_31 = (po x dd) := e_31.trans ((lkD_e hE).trans (lkD_4 x _ _))
                  refine rm_iadd hc dL_yard_291 (fun v_32 e_32 => ?_)
                  obtain rfl : v_32 = (ps (po x) (dd + 1)) := e_32
                  refine rm_istore_n (ls' := [(0, .ref (ad 8 9 0)), (1, .int (ps (pf x) 4)), (2, .int (ps (po x) (dd + 1))), (3, .int (ps (pn x) dd)), (4, .int (ps (pl x) dd)), (5, .int 1), (6, .int (nI (dd))), (7, .int (ps (ql x dd) sd)), (8, .int (nI (sd)))]) hc dL_yard_292 rfl (by decide) rfl ?_
                  refine rm_iload_n hc dL_yard_293 rfl rfl ?_
                  refine rm_aload_n hc dL_yard_294 rfl rfl ?_
                  refine rm_iload hc dL_yard_295 rfl ?_
                  refine rm_iconst (v := 0) hc dL_yard_297 (by decide) ?_
                  refine rm_calliV (As := [.int (nI (dd)), .int 0]) (rest := [.int (ps (pn x) dd)]) hc dL_yard_298 (c_X8_door hI zm (d := dd) (by omega) 0 (by decide) (by decide)) mv_L_41 dm_9 rfl rfl (hn := rfl) (hst := rfl) (hw := Nat.le_of_ble_eq_true rfl) (hR := ⟨⟨rfl, rfl⟩, Nat.le_of_ble_eq_true rfl, Nat.le_of_ble_eq_true rfl⟩) (hnc := ⟨Nat.zero_le _, Nat.zero_le _⟩) (fun r_33 y_33 h_33 => ?_)
                  obtain ⟨e_33, ey_33⟩ := h_33
                  obtain rfl := ey_33.symm
                  obtain rfl : r_33 = (pn x dd) := e_33.trans ((lkD_e hE).trans (lkD_0 x _ _))
                  refine rm_iadd hc dL_yard_301 (fun v_34 e_34 => ?_)
                  obtain rfl : v_34 = (ps (pn x) (dd + 1)) := e_34
                  refine rm_istore_n (ls' := [(0, .ref (ad 8 9 0)), (1, .int (ps (pf x) 4)), (2, .int (ps (po x) (dd + 1))), (3, .int (ps (pn x) (dd + 1))), (4, .int (ps (pl x) dd)), (5, .int 1), (6, .int (nI (dd))), (7, .int (ps (ql x dd) sd)), (8, .int (nI (sd)))]) hc dL_yard_302 rfl (by decide) rfl ?_
                  refine rm_iload hc dL_yard_303 rfl ?_
                  refine rm_aload_n hc dL_yard_305 rfl rfl ?_
                  refine rm_iload hc dL_yard_306 rfl ?_
                  refine rm_iconst (v := 2) hc dL_yard_308 (by decide) ?_
                  refine rm_calliV (As := [.int (nI (dd)), .int 2]) (rest := [.int (ps (pl x) dd)]) hc dL_yard_309 (c_X8_door hI zm (d := dd) (by omega) 2 (by decide) (by decide)) mv_L_41 dm_9 rfl rfl (hn := rfl) (hst := rfl) (hw := Nat.le_of_ble_eq_true rfl) (hR := ⟨⟨rfl, rfl⟩, Nat.le_of_ble_eq_true rfl, Nat.le_of_ble_eq_true rfl⟩) (hnc := ⟨Nat.zero_le _, Nat.zero_le _⟩) (fun r_35 y_35 h_35 => ?_)
                  obtain ⟨e_35, ey_35⟩ := h_35
                  obtain rfl := ey_35.symm
                  obtain rfl : r_35 = (pl x dd) := e_35.trans ((lkD_e hE).trans (lkD_2 x _))
                  refine rm_iadd hc dL_yard_312 (fun v_36 e_36 => ?_)
                  obtain rfl : v_36 = (ps (pl x) (dd + 1)) := e_36
                  refine rm_istore (ls' := [(0, .ref (ad 8 9 0)), (1, .int (ps (pf x) 4)), (2, .int (ps (po x) (dd + 1))), (3, .int (ps (pn x) (dd + 1))), (4, .int (ps (pl x) (dd + 1))), (5, .int 1), (6, .int (nI (dd))), (7, .int (ps (ql x dd) sd)), (8, .int (nI (sd)))]) hc dL_yard_313 (by decide) rfl ?_
                  refine rm_aload_n hc dL_yard_315 rfl rfl ?_
                  refine rm_iload hc dL_yard_316 rfl ?_
                  refine rm_calliV (As := [.int (nI (dd))]) (rest := []) hc dL_yard_318 (c_X8_useful hI zm (d := dd) (nr := nr) (by omega) mm (by omega) ((hE.at (by omega)).trans hw) (hE.flg (by omega) hF) ((hE.at (by omega)).trans hnr) hr8) mv_L_44 dm_9 rfl rfl (hn := rfl) (hst := rfl) (hw := Nat.le_of_ble_eq_true rfl) (hR := ⟨⟨rfl, rfl⟩, Nat.le_of_ble_eq_true rfl, Nat.le_of_ble_eq_true rfl⟩) (hnc := ⟨Nat.zero_le _, Nat.zero_le _⟩) (fun r_37 y_37 h_37 => ?_)
                  obtain ⟨e_37, ey_37⟩ := h_37
                  have hE_37 : E7 x y_37 := hE.tr ey_37
                  replace e_37 : r_37 = fusS x dd mm nr 0 := e_37.trans (fus_congr hE _ _)
                  refine rm_istore (ls' := [(0, .ref (ad 8 9 0)), (1, .int (ps (pf x) 4)), (2, .int (ps (po x) (dd + 1))), (3, .int (ps (pn x) (dd + 1))), (4, .int (ps (pl x) (dd + 1))), (5, .int 1), (6, .int (nI (dd))), (7, .int (ps (ql x dd) sd)), (8, .int r_37)]) hc dL_yard_321 (by decide) rfl ?_
                  obtain ⟨lk, wr, hlk20, hwr20, hlk, hwr, hor⟩ := door_or hc0 (d := dd) (by omega) hB
                  rcases use_or (x := x) (d := dd) (mm := mm) (nr := nr) with hu | ⟨iu, ln, hiu, hu, hhu, hln, hln4, hlp⟩
                  · --use
                    obtain rfl : r_37 = (-1) := e_37.trans hu
                    rcases hor with ⟨hl0, hlS⟩ | ⟨hl0, hl1, hlS⟩ | ⟨hl0, hl1, hlS⟩
                    · --lock
                      refine rm_iload hc dL_yard_323 rfl ?_
                      refine rm_if_eq (tgt := 465) hc dL_yard_325 (by decide) (fun h => absurd h (by decide)) (fun _ => ?_)
                      refine rm_aload_n hc dL_yard_328 rfl rfl ?_
                      refine rm_iload hc dL_yard_329 rfl ?_
                      refine rm_iconst (v := 3) hc dL_yard_331 (by decide) ?_
                      refine rm_calliV (As := [.int (nI (dd)), .int 3]) (rest := []) hc dL_yard_332 (c_X8_door hI y_37 (d := dd) (by omega) 3 (by decide) (by decide)) mv_L_41 dm_9 rfl rfl (hn := rfl) (hst := rfl) (hw := Nat.le_of_ble_eq_true rfl) (hR := ⟨⟨rfl, rfl⟩, Nat.le_of_ble_eq_true rfl, Nat.le_of_ble_eq_true rfl⟩) (hnc := ⟨Nat.zero_le _, Nat.zero_le _⟩) (fun r_39 y_39 h_39 => ?_)
                      obtain ⟨e_39, ey_39⟩ := h_39
                      obtain rfl := ey_39.symm
                      obtain rfl : r_39 = (ps (ql x dd) 4) := e_39.trans ((lkD_e hE_37).trans (lkD_3 x _ _))
                      refine rm_iload hc dL_yard_335 rfl ?_
                      refine rm_icmp_ne (tgt := 465) hc dL_yard_337 (by decide) (fun h => absurd (by rw [show sd = 4 by omega]) h) (fun _ => ?_)
                      refine rm_aload_n hc dL_yard_340 rfl rfl ?_
                      refine rm_iload hc dL_yard_341 rfl ?_
                      refine rm_iconst (v := 2) hc dL_yard_343 (by decide) ?_
                      refine rm_calliV (As := [.int (nI (dd)), .int 2]) (rest := []) hc dL_yard_344 (c_X8_door hI y_37 (d := dd) (by omega) 2 (by decide) (by decide)) mv_L_41 dm_9 rfl rfl (hn := rfl) (hst := rfl) (hw := Nat.le_of_ble_eq_true rfl) (hR := ⟨⟨rfl, rfl⟩, Nat.le_of_ble_eq_true rfl, Nat.le_of_ble_eq_true rfl⟩) (hnc := ⟨Nat.zero_le _, Nat.zero_le _⟩) (fun r_41 y_41 h_41 => ?_)
                      obtain ⟨e_41, ey_41⟩ := h_41
                      obtain rfl := ey_41.symm
                      obtain rfl : r_41 = 0 := e_41.trans ((lkD_e hE_37).trans ((lkD_2 x _).trans (by unfold pl; rw [hlS]; rfl)))
                      refine rm_iconst (v := 1) hc dL_yard_347 (by decide) ?_
                      refine rm_icmp_ne (tgt := 355) hc dL_yard_348 (by decide) (fun _ => ?_) (fun h => absurd h (by decide))
                      refine rm_iconst (v := 0) hc dL_yard_355 (by decide) ?_
                      refine rm_aload_n hc dL_yard_356 rfl rfl ?_
                      refine rm_iconst (v := 2) hc dL_yard_357 (by decide) ?_
                      refine rm_calliV (As := [.int 2]) (rest := [.int 0]) hc dL_yard_358 (c_X8_setting hI y_37 2 (by decide) (by decide)) mv_L_47 dm_9 rfl rfl (hn := rfl) (hst := rfl) (hw := Nat.le_of_ble_eq_true rfl) (hR := ⟨⟨rfl, rfl⟩, Nat.le_of_ble_eq_true rfl, Nat.le_of_ble_eq_true rfl⟩) (hnc := ⟨Nat.zero_le _, Nat.zero_le _⟩) (fun r_43 y_43 h_43 => ?_)
                      obtain ⟨e_43, ey_43⟩ := h_43
                      obtain rfl := ey_43.symm
                      obtain rfl : r_43 = nI lk := e_43.trans ((val_e hE_37).trans ((val_2 x).trans hlk))
                      refine rm_if_le (tgt := 383) hc dL_yard_361 (by decide) (fun _ => ?_) (fun h => absurd ((nI_leI (a := lk) (b := 0) (by omega) (by omega)).mpr (by omega)) h)
                      refine rm_iconst (v := 0) hc dL_yard_383 (by decide) ?_
                      refine rm_icmp_ne (tgt := 465) hc dL_yard_384 (by decide) (fun h => absurd h (by decide)) (fun _ => ?_)
                      refine rm_iload hc dL_yard_387 rfl ?_
                      refine rm_iconst (v := -1) hc dL_yard_389 (by decide) ?_
                      refine rm_icmp_eq (tgt := 424) hc dL_yard_390 (by decide) (fun _ => ?_) (fun h => absurd (by decide) h)
                      refine rm_aload_n hc dL_yard_424 rfl rfl ?_
                      refine rm_iload hc dL_yard_425 rfl ?_
                      refine rm_sipush (v := 31000) hc dL_yard_427 (by decide) ?_
                      refine rm_calliV (As := [.int (nI (dd)), .int 31000]) (rest := []) hc dL_yard_430 (c_X8_ifHeard hI y_37 (d := dd) (by omega) mm (by omega) ((hE_37.at (by omega)).trans hw) (hE_37.flg (by omega) hF) 31000 (by decide) (by decide)) mv_L_50 dm_9 rfl rfl (hn := rfl) (hst := rfl) (hw := Nat.le_of_ble_eq_true rfl) (hR := ⟨⟨rfl, rfl⟩, Nat.le_of_ble_eq_true rfl, Nat.le_of_ble_eq_true rfl⟩) (hnc := ⟨Nat.zero_le _, Nat.zero_le _⟩) (fun r_47 y_47 h_47 => ?_)
                      obtain ⟨e_47, ey_47⟩ := h_47
                      have hE_47 : E7 x y_47 := hE_37.tr ey_47
                      have hnl : ¬ r_47 = 3 := by rw [e_47, hE_37.hrd]; exact hrl_0 hlS
                      refine rm_iconst (v := 3) hc dL_yard_433 (by decide) ?_
                      refine rm_icmp_ne (tgt := 441) hc dL_yard_434 (by decide) (fun _ => ?_) (fun h => absurd h hnl)
                      refine rm_iconst (v := 0) hc dL_yard_441 (by decide) ?_
                      refine rm_aload_n hc dL_yard_442 rfl rfl ?_
                      refine rm_iload hc dL_yard_443 rfl ?_
                      refine rm_iconst (v := 2) hc dL_yard_445 (by decide) ?_
                      refine rm_calliV (As := [.int (nI (dd)), .int 2]) (rest := [.int 0]) hc dL_yard_446 (c_X8_door hI y_47 (d := dd) (by omega) 2 (by decide) (by decide)) mv_L_41 dm_9 rfl rfl (hn := rfl) (hst := rfl) (hw := Nat.le_of_ble_eq_true rfl) (hR := ⟨⟨rfl, rfl⟩, Nat.le_of_ble_eq_true rfl, Nat.le_of_ble_eq_true rfl⟩) (hnc := ⟨Nat.zero_le _, Nat.zero_le _⟩) (fun r_49 y_49 h_49 => ?_)
                      obtain ⟨e_49, ey_49⟩ := h_49
                      obtain rfl := ey_49.symm
                      obtain rfl : r_49 = 0 := e_49.trans ((lkD_e hE_47).trans ((lkD_2 x _).trans (by unfold pl; rw [hlS]; rfl)))
                      refine rm_iconst (v := 1) hc dL_yard_449 (by decide) ?_
                      refine rm_icmp_ne (tgt := 457) hc dL_yard_450 (by decide) (fun _ => ?_) (fun h => absurd h (by decide))
                      refine rm_iconst (v := 0) hc dL_yard_457 (by decide) ?_
                      refine rm_icmp_ne (tgt := 465) hc dL_yard_458 (by decide) (fun h => absurd h (by decide)) (fun _ => ?_)
                      refine rm_iconst (v := 1) hc dL_yard_461 (by decide) ?_
                      refine rm_goto (tgt := 466) hc dL_yard_462 (by decide) ?_
                      refine rm_istore (ls' := [(0, .ref (ad 8 9 0)), (1, .int (ps (pf x) 4)), (2, .int (ps (po x) (dd + 1))), (3, .int (ps (pn x) (dd + 1))), (4, .int (ps (pl x) (dd + 1))), (5, .int 1), (6, .int (nI (dd))), (7, .int (ps (ql x dd) sd)), (8, .int (-1))]) hc dL_yard_466 (by decide) rfl ?_
                      refine rm_iinc (v := (nI (dd + 1))) (ls' := [(0, .ref (ad 8 9 0)), (1, .int (ps (pf x) 4)), (2, .int (ps (po x) (dd + 1))), (3, .int (ps (pn x) (dd + 1))), (4, .int (ps (pl x) (dd + 1))), (5, .int 1), (6, .int (nI (dd + 1))), (7, .int (ps (ql x dd) sd)), (8, .int (-1))]) hc dL_yard_468 rfl (nIj (by omega)) (by decide) rfl ?_
                      refine rm_goto (tgt := 134) hc dL_yard_471 (by decide) ?_
                      refine rm_sub [0, 1, 2, 3, 4, 5, 6] rfl ?_
                      exact ihC (dd + 1) _ (by omega) hE_47
                    · --lock
                      refine rm_iload hc dL_yard_323 rfl ?_
                      refine rm_if_eq (tgt := 465) hc dL_yard_325 (by decide) (fun h => absurd h (by decide)) (fun _ => ?_)
                      refine rm_aload_n hc dL_yard_328 rfl rfl ?_
                      refine rm_iload hc dL_yard_329 rfl ?_
                      refine rm_iconst (v := 3) hc dL_yard_331 (by decide) ?_
                      refine rm_calliV (As := [.int (nI (dd)), .int 3]) (rest := []) hc dL_yard_332 (c_X8_door hI y_37 (d := dd) (by omega) 3 (by decide) (by decide)) mv_L_41 dm_9 rfl rfl (hn := rfl) (hst := rfl) (hw := Nat.le_of_ble_eq_true rfl) (hR := ⟨⟨rfl, rfl⟩, Nat.le_of_ble_eq_true rfl, Nat.le_of_ble_eq_true rfl⟩) (hnc := ⟨Nat.zero_le _, Nat.zero_le _⟩) (fun r_53 y_53 h_53 => ?_)
                      obtain ⟨e_53, ey_53⟩ := h_53
                      obtain rfl := ey_53.symm
                      obtain rfl : r_53 = (ps (ql x dd) 4) := e_53.trans ((lkD_e hE_37).trans (lkD_3 x _ _))
                      refine rm_iload hc dL_yard_335 rfl ?_
                      refine rm_icmp_ne (tgt := 465) hc dL_yard_337 (by decide) (fun h => absurd (by rw [show sd = 4 by omega]) h) (fun _ => ?_)
                      refine rm_aload_n hc dL_yard_340 rfl rfl ?_
                      refine rm_iload hc dL_yard_341 rfl ?_
                      refine rm_iconst (v := 2) hc dL_yard_343 (by decide) ?_
                      refine rm_calliV (As := [.int (nI (dd)), .int 2]) (rest := []) hc dL_yard_344 (c_X8_door hI y_37 (d := dd) (by omega) 2 (by decide) (by decide)) mv_L_41 dm_9 rfl rfl (hn := rfl) (hst := rfl) (hw := Nat.le_of_ble_eq_true rfl) (hR := ⟨⟨rfl, rfl⟩, Nat.le_of_ble_eq_true rfl, Nat.le_of_ble_eq_true rfl⟩) (hnc := ⟨Nat.zero_le _, Nat.zero_le _⟩) (fun r_55 y_55 h_55 => ?_)
                      obtain ⟨e_55, ey_55⟩ := h_55
                      obtain rfl := ey_55.symm
                      obtain rfl : r_55 = 0 := e_55.trans ((lkD_e hE_37).trans ((lkD_2 x _).trans (by unfold pl; rw [hlS]; rfl)))
                      refine rm_iconst (v := 1) hc dL_yard_347 (by decide) ?_
                      refine rm_icmp_ne (tgt := 355) hc dL_yard_348 (by decide) (fun _ => ?_) (fun h => absurd h (by decide))
                      refine rm_iconst (v := 0) hc dL_yard_355 (by decide) ?_
                      refine rm_aload_n hc dL_yard_356 rfl rfl ?_
                      refine rm_iconst (v := 2) hc dL_yard_357 (by decide) ?_
                      refine rm_calliV (As := [.int 2]) (rest := [.int 0]) hc dL_yard_358 (c_X8_setting hI y_37 2 (by decide) (by decide)) mv_L_47 dm_9 rfl rfl (hn := rfl) (hst := rfl) (hw := Nat.le_of_ble_eq_true rfl) (hR := ⟨⟨rfl, rfl⟩, Nat.le_of_ble_eq_true rfl, Nat.le_of_ble_eq_true rfl⟩) (hnc := ⟨Nat.zero_le _, Nat.zero_le _⟩) (fun r_57 y_57 h_57 => ?_)
                      obtain ⟨e_57, ey_57⟩ := h_57
                      obtain rfl := ey_57.symm
                      obtain rfl : r_57 = nI lk := e_57.trans ((val_e hE_37).trans ((val_2 x).trans hlk))
                      refine rm_if_le (tgt := 383) hc dL_yard_361 (by decide) (fun h => absurd h (fun h2 => absurd ((nI_leI (a := lk) (b := 0) (by omega) (by omega)).mp h2) (by omega))) (fun _ => ?_)
                      refine rm_aload_n hc dL_yard_364 rfl rfl ?_
                      refine rm_iload hc dL_yard_365 rfl ?_
                      refine rm_iconst (v := 1) hc dL_yard_367 (by decide) ?_
                      refine rm_calliV (As := [.int (nI (dd)), .int 1]) (rest := [.int 0]) hc dL_yard_368 (c_X8_door hI y_37 (d := dd) (by omega) 1 (by decide) (by decide)) mv_L_41 dm_9 rfl rfl (hn := rfl) (hst := rfl) (hw := Nat.le_of_ble_eq_true rfl) (hR := ⟨⟨rfl, rfl⟩, Nat.le_of_ble_eq_true rfl, Nat.le_of_ble_eq_true rfl⟩) (hnc := ⟨Nat.zero_le _, Nat.zero_le _⟩) (fun r_59 y_59 h_59 => ?_)
                      obtain ⟨e_59, ey_59⟩ := h_59
                      obtain rfl := ey_59.symm
                      obtain rfl : r_59 = nI wr := e_59.trans ((lkD_e hE_37).trans ((lkD_1 x _ _).trans hwr))
                      refine rm_aload_n hc dL_yard_371 rfl rfl ?_
                      refine rm_iconst (v := 2) hc dL_yard_372 (by decide) ?_
                      refine rm_calliV (As := [.int 2]) (rest := [.int (nI (wr)), .int 0]) hc dL_yard_373 (c_X8_setting hI y_37 2 (by decide) (by decide)) mv_L_47 dm_9 rfl rfl (hn := rfl) (hst := rfl) (hw := Nat.le_of_ble_eq_true rfl) (hR := ⟨⟨rfl, rfl⟩, Nat.le_of_ble_eq_true rfl, Nat.le_of_ble_eq_true rfl⟩) (hnc := ⟨Nat.zero_le _, Nat.zero_le _⟩) (fun r_60 y_60 h_60 => ?_)
                      obtain ⟨e_60, ey_60⟩ := h_60
                      obtain rfl := ey_60.symm
                      obtain rfl : r_60 = nI lk := e_60.trans ((val_e hE_37).trans ((val_2 x).trans hlk))
                      refine rm_icmp_lt (tgt := 383) hc dL_yard_376 (by decide) (fun _ => ?_) (fun h => absurd ((nI_ltI (a := wr) (b := lk) (by omega) (by omega)).mpr (by omega)) h)
                      refine rm_iconst (v := 0) hc dL_yard_383 (by decide) ?_
                      refine rm_icmp_ne (tgt := 465) hc dL_yard_384 (by decide) (fun h => absurd h (by decide)) (fun _ => ?_)
                      refine rm_iload hc dL_yard_387 rfl ?_
                      refine rm_iconst (v := -1) hc dL_yard_389 (by decide) ?_
                      refine rm_icmp_eq (tgt := 424) hc dL_yard_390 (by decide) (fun _ => ?_) (fun h => absurd (by decide) h)
                      refine rm_aload_n hc dL_yard_424 rfl rfl ?_
                      refine rm_iload hc dL_yard_425 rfl ?_
                      refine rm_sipush (v := 31000) hc dL_yard_427 (by decide) ?_
                      refine rm_calliV (As := [.int (nI (dd)), .int 31000]) (rest := []) hc dL_yard_430 (c_X8_ifHeard hI y_37 (d := dd) (by omega) mm (by omega) ((hE_37.at (by omega)).trans hw) (hE_37.flg (by omega) hF) 31000 (by decide) (by decide)) mv_L_50 dm_9 rfl rfl (hn := rfl) (hst := rfl) (hw := Nat.le_of_ble_eq_true rfl) (hR := ⟨⟨rfl, rfl⟩, Nat.le_of_ble_eq_true rfl, Nat.le_of_ble_eq_true rfl⟩) (hnc := ⟨Nat.zero_le _, Nat.zero_le _⟩) (fun r_64 y_64 h_64 => ?_)
                      obtain ⟨e_64, ey_64⟩ := h_64
                      have hE_64 : E7 x y_64 := hE_37.tr ey_64
                      have hnl : ¬ r_64 = 3 := by rw [e_64, hE_37.hrd]; exact hrl_0 hlS
                      refine rm_iconst (v := 3) hc dL_yard_433 (by decide) ?_
                      refine rm_icmp_ne (tgt := 441) hc dL_yard_434 (by decide) (fun _ => ?_) (fun h => absurd h hnl)
                      refine rm_iconst (v := 0) hc dL_yard_441 (by decide) ?_
                      refine rm_aload_n hc dL_yard_442 rfl rfl ?_
                      refine rm_iload hc dL_yard_443 rfl ?_
                      refine rm_iconst (v := 2) hc dL_yard_445 (by decide) ?_
                      refine rm_calliV (As := [.int (nI (dd)), .int 2]) (rest := [.int 0]) hc dL_yard_446 (c_X8_door hI y_64 (d := dd) (by omega) 2 (by decide) (by decide)) mv_L_41 dm_9 rfl rfl (hn := rfl) (hst := rfl) (hw := Nat.le_of_ble_eq_true rfl) (hR := ⟨⟨rfl, rfl⟩, Nat.le_of_ble_eq_true rfl, Nat.le_of_ble_eq_true rfl⟩) (hnc := ⟨Nat.zero_le _, Nat.zero_le _⟩) (fun r_66 y_66 h_66 => ?_)
                      obtain ⟨e_66, ey_66⟩ := h_66
                      obtain rfl := ey_66.symm
                      obtain rfl : r_66 = 0 := e_66.trans ((lkD_e hE_64).trans ((lkD_2 x _).trans (by unfold pl; rw [hlS]; rfl)))
                      refine rm_iconst (v := 1) hc dL_yard_449 (by decide) ?_
                      refine rm_icmp_ne (tgt := 457) hc dL_yard_450 (by decide) (fun _ => ?_) (fun h => absurd h (by decide))
                      refine rm_iconst (v := 0) hc dL_yard_457 (by decide) ?_
                      refine rm_icmp_ne (tgt := 465) hc dL_yard_458 (by decide) (fun h => absurd h (by decide)) (fun _ => ?_)
                      refine rm_iconst (v := 1) hc dL_yard_461 (by decide) ?_
                      refine rm_goto (tgt := 466) hc dL_yard_462 (by decide) ?_
                      refine rm_istore (ls' := [(0, .ref (ad 8 9 0)), (1, .int (ps (pf x) 4)), (2, .int (ps (po x) (dd + 1))), (3, .int (ps (pn x) (dd + 1))), (4, .int (ps (pl x) (dd + 1))), (5, .int 1), (6, .int (nI (dd))), (7, .int (ps (ql x dd) sd)), (8, .int (-1))]) hc dL_yard_466 (by decide) rfl ?_
                      refine rm_iinc (v := (nI (dd + 1))) (ls' := [(0, .ref (ad 8 9 0)), (1, .int (ps (pf x) 4)), (2, .int (ps (po x) (dd + 1))), (3, .int (ps (pn x) (dd + 1))), (4, .int (ps (pl x) (dd + 1))), (5, .int 1), (6, .int (nI (dd + 1))), (7, .int (ps (ql x dd) sd)), (8, .int (-1))]) hc dL_yard_468 rfl (nIj (by omega)) (by decide) rfl ?_
                      refine rm_goto (tgt := 134) hc dL_yard_471 (by decide) ?_
                      refine rm_sub [0, 1, 2, 3, 4, 5, 6] rfl ?_
                      exact ihC (dd + 1) _ (by omega) hE_64
                    · --lock
                      refine rm_iload hc dL_yard_323 rfl ?_
                      refine rm_if_eq (tgt := 465) hc dL_yard_325 (by decide) (fun h => absurd h (by decide)) (fun _ => ?_)
                      refine rm_aload_n hc dL_yard_328 rfl rfl ?_
                      refine rm_iload hc dL_yard_329 rfl ?_
                      refine rm_iconst (v := 3) hc dL_yard_331 (by decide) ?_
                      refine rm_calliV (As := [.int (nI (dd)), .int 3]) (rest := []) hc dL_yard_332 (c_X8_door hI y_37 (d := dd) (by omega) 3 (by decide) (by decide)) mv_L_41 dm_9 rfl rfl (hn := rfl) (hst := rfl) (hw := Nat.le_of_ble_eq_true rfl) (hR := ⟨⟨rfl, rfl⟩, Nat.le_of_ble_eq_true rfl, Nat.le_of_ble_eq_true rfl⟩) (hnc := ⟨Nat.zero_le _, Nat.zero_le _⟩) (fun r_70 y_70 h_70 => ?_)
                      obtain ⟨e_70, ey_70⟩ := h_70
                      obtain rfl := ey_70.symm
                      obtain rfl : r_70 = (ps (ql x dd) 4) := e_70.trans ((lkD_e hE_37).trans (lkD_3 x _ _))
                      refine rm_iload hc dL_yard_335 rfl ?_
                      refine rm_icmp_ne (tgt := 465) hc dL_yard_337 (by decide) (fun h => absurd (by rw [show sd = 4 by omega]) h) (fun _ => ?_)
                      refine rm_aload_n hc dL_yard_340 rfl rfl ?_
                      refine rm_iload hc dL_yard_341 rfl ?_
                      refine rm_iconst (v := 2) hc dL_yard_343 (by decide) ?_
                      refine rm_calliV (As := [.int (nI (dd)), .int 2]) (rest := []) hc dL_yard_344 (c_X8_door hI y_37 (d := dd) (by omega) 2 (by decide) (by decide)) mv_L_41 dm_9 rfl rfl (hn := rfl) (hst := rfl) (hw := Nat.le_of_ble_eq_true rfl) (hR := ⟨⟨rfl, rfl⟩, Nat.le_of_ble_eq_true rfl, Nat.le_of_ble_eq_true rfl⟩) (hnc := ⟨Nat.zero_le _, Nat.zero_le _⟩) (fun r_72 y_72 h_72 => ?_)
                      obtain ⟨e_72, ey_72⟩ := h_72
                      obtain rfl := ey_72.symm
                      obtain rfl : r_72 = 1 := e_72.trans ((lkD_e hE_37).trans ((lkD_2 x _).trans (by unfold pl; rw [hlS]; rfl)))
                      refine rm_iconst (v := 1) hc dL_yard_347 (by decide) ?_
                      refine rm_icmp_ne (tgt := 355) hc dL_yard_348 (by decide) (fun h => absurd h (by decide)) (fun _ => ?_)
                      refine rm_iconst (v := 1) hc dL_yard_351 (by decide) ?_
                      refine rm_goto (tgt := 356) hc dL_yard_352 (by decide) ?_
                      refine rm_aload_n hc dL_yard_356 rfl rfl ?_
                      refine rm_iconst (v := 2) hc dL_yard_357 (by decide) ?_
                      refine rm_calliV (As := [.int 2]) (rest := [.int 1]) hc dL_yard_358 (c_X8_setting hI y_37 2 (by decide) (by decide)) mv_L_47 dm_9 rfl rfl (hn := rfl) (hst := rfl) (hw := Nat.le_of_ble_eq_true rfl) (hR := ⟨⟨rfl, rfl⟩, Nat.le_of_ble_eq_true rfl, Nat.le_of_ble_eq_true rfl⟩) (hnc := ⟨Nat.zero_le _, Nat.zero_le _⟩) (fun r_74 y_74 h_74 => ?_)
                      obtain ⟨e_74, ey_74⟩ := h_74
                      obtain rfl := ey_74.symm
                      obtain rfl : r_74 = nI lk := e_74.trans ((val_e hE_37).trans ((val_2 x).trans hlk))
                      refine rm_if_le (tgt := 383) hc dL_yard_361 (by decide) (fun h => absurd h (fun h2 => absurd ((nI_leI (a := lk) (b := 0) (by omega) (by omega)).mp h2) (by omega))) (fun _ => ?_)
                      refine rm_aload_n hc dL_yard_364 rfl rfl ?_
                      refine rm_iload hc dL_yard_365 rfl ?_
                      refine rm_iconst (v := 1) hc dL_yard_367 (by decide) ?_
                      refine rm_calliV (As := [.int (nI (dd)), .int 1]) (rest := [.int 1]) hc dL_yard_368 (c_X8_door hI y_37 (d := dd) (by omega) 1 (by decide) (by decide)) mv_L_41 dm_9 rfl rfl (hn := rfl) (hst := rfl) (hw := Nat.le_of_ble_eq_true rfl) (hR := ⟨⟨rfl, rfl⟩, Nat.le_of_ble_eq_true rfl, Nat.le_of_ble_eq_true rfl⟩) (hnc := ⟨Nat.zero_le _, Nat.zero_le _⟩) (fun r_76 y_76 h_76 => ?_)
                      obtain ⟨e_76, ey_76⟩ := h_76
                      obtain rfl := ey_76.symm
                      obtain rfl : r_76 = nI wr := e_76.trans ((lkD_e hE_37).trans ((lkD_1 x _ _).trans hwr))
                      refine rm_aload_n hc dL_yard_371 rfl rfl ?_
                      refine rm_iconst (v := 2) hc dL_yard_372 (by decide) ?_
                      refine rm_calliV (As := [.int 2]) (rest := [.int (nI (wr)), .int 1]) hc dL_yard_373 (c_X8_setting hI y_37 2 (by decide) (by decide)) mv_L_47 dm_9 rfl rfl (hn := rfl) (hst := rfl) (hw := Nat.le_of_ble_eq_true rfl) (hR := ⟨⟨rfl, rfl⟩, Nat.le_of_ble_eq_true rfl, Nat.le_of_ble_eq_true rfl⟩) (hnc := ⟨Nat.zero_le _, Nat.zero_le _⟩) (fun r_77 y_77 h_77 => ?_)
                      obtain ⟨e_77, ey_77⟩ := h_77
                      obtain rfl := ey_77.symm
                      obtain rfl : r_77 = nI lk := e_77.trans ((val_e hE_37).trans ((val_2 x).trans hlk))
                      refine rm_icmp_lt (tgt := 383) hc dL_yard_376 (by decide) (fun h => absurd h (fun h2 => absurd ((nI_ltI (a := wr) (b := lk) (by omega) (by omega)).mp h2) (by omega))) (fun _ => ?_)
                      refine rm_iconst (v := 1) hc dL_yard_379 (by decide) ?_
                      refine rm_goto (tgt := 384) hc dL_yard_380 (by decide) ?_
                      refine rm_icmp_ne (tgt := 465) hc dL_yard_384 (by decide) (fun h => absurd h (by decide)) (fun _ => ?_)
                      refine rm_iload hc dL_yard_387 rfl ?_
                      refine rm_iconst (v := -1) hc dL_yard_389 (by decide) ?_
                      refine rm_icmp_eq (tgt := 424) hc dL_yard_390 (by decide) (fun _ => ?_) (fun h => absurd (by decide) h)
                      refine rm_aload_n hc dL_yard_424 rfl rfl ?_
                      refine rm_iload hc dL_yard_425 rfl ?_
                      refine rm_sipush (v := 31000) hc dL_yard_427 (by decide) ?_
                      refine rm_calliV (As := [.int (nI (dd)), .int 31000]) (rest := []) hc dL_yard_430 (c_X8_ifHeard hI y_37 (d := dd) (by omega) mm (by omega) ((hE_37.at (by omega)).trans hw) (hE_37.flg (by omega) hF) 31000 (by decide) (by decide)) mv_L_50 dm_9 rfl rfl (hn := rfl) (hst := rfl) (hw := Nat.le_of_ble_eq_true rfl) (hR := ⟨⟨rfl, rfl⟩, Nat.le_of_ble_eq_true rfl, Nat.le_of_ble_eq_true rfl⟩) (hnc := ⟨Nat.zero_le _, Nat.zero_le _⟩) (fun r_81 y_81 h_81 => ?_)
                      obtain ⟨e_81, ey_81⟩ := h_81
                      have hE_81 : E7 x y_81 := hE_37.tr ey_81
                      obtain rfl : r_81 = 3 := e_81.trans (hE_37.hrd.trans (hrl_1 hlS))
                      refine rm_iconst (v := 3) hc dL_yard_433 (by decide) ?_
                      refine rm_icmp_ne (tgt := 441) hc dL_yard_434 (by decide) (fun h => absurd h (by decide)) (fun _ => ?_)
                      refine rm_iconst (v := 1) hc dL_yard_437 (by decide) ?_
                      refine rm_goto (tgt := 442) hc dL_yard_438 (by decide) ?_
                      refine rm_aload_n hc dL_yard_442 rfl rfl ?_
                      refine rm_iload hc dL_yard_443 rfl ?_
                      refine rm_iconst (v := 2) hc dL_yard_445 (by decide) ?_
                      refine rm_calliV (As := [.int (nI (dd)), .int 2]) (rest := [.int 1]) hc dL_yard_446 (c_X8_door hI y_81 (d := dd) (by omega) 2 (by decide) (by decide)) mv_L_41 dm_9 rfl rfl (hn := rfl) (hst := rfl) (hw := Nat.le_of_ble_eq_true rfl) (hR := ⟨⟨rfl, rfl⟩, Nat.le_of_ble_eq_true rfl, Nat.le_of_ble_eq_true rfl⟩) (hnc := ⟨Nat.zero_le _, Nat.zero_le _⟩) (fun r_83 y_83 h_83 => ?_)
                      obtain ⟨e_83, ey_83⟩ := h_83
                      obtain rfl := ey_83.symm
                      obtain rfl : r_83 = 1 := e_83.trans ((lkD_e hE_81).trans ((lkD_2 x _).trans (by unfold pl; rw [hlS]; rfl)))
                      refine rm_iconst (v := 1) hc dL_yard_449 (by decide) ?_
                      refine rm_icmp_ne (tgt := 457) hc dL_yard_450 (by decide) (fun h => absurd h (by decide)) (fun _ => ?_)
                      refine rm_iconst (v := 1) hc dL_yard_453 (by decide) ?_
                      refine rm_goto (tgt := 458) hc dL_yard_454 (by decide) ?_
                      refine rm_icmp_ne (tgt := 465) hc dL_yard_458 (by decide) (fun h => absurd h (by decide)) (fun _ => ?_)
                      refine rm_iconst (v := 1) hc dL_yard_461 (by decide) ?_
                      refine rm_goto (tgt := 466) hc dL_yard_462 (by decide) ?_
                      refine rm_istore (ls' := [(0, .ref (ad 8 9 0)), (1, .int (ps (pf x) 4)), (2, .int (ps (po x) (dd + 1))), (3, .int (ps (pn x) (dd + 1))), (4, .int (ps (pl x) (dd + 1))), (5, .int 1), (6, .int (nI (dd))), (7, .int (ps (ql x dd) sd)), (8, .int (-1))]) hc dL_yard_466 (by decide) rfl ?_
                      refine rm_iinc (v := (nI (dd + 1))) (ls' := [(0, .ref (ad 8 9 0)), (1, .int (ps (pf x) 4)), (2, .int (ps (po x) (dd + 1))), (3, .int (ps (pn x) (dd + 1))), (4, .int (ps (pl x) (dd + 1))), (5, .int 1), (6, .int (nI (dd + 1))), (7, .int (ps (ql x dd) sd)), (8, .int (-1))]) hc dL_yard_468 rfl (nIj (by omega)) (by decide) rfl ?_
                      refine rm_goto (tgt := 134) hc dL_yard_471 (by decide) ?_
                      refine rm_sub [0, 1, 2, 3, 4, 5, 6] rfl ?_
                      exact ihC (dd + 1) _ (by omega) hE_81
                  · --use
                    obtain rfl : r_37 = (nI (iu)) := e_37.trans hu
                    obtain ⟨qa, hqa, eqa⟩ := har iu hiu
                    have eqn := (num_n hiu hr8 hnr).trans eqa
                    rcases hor with ⟨hl0, hlS⟩ | ⟨hl0, hl1, hlS⟩ | ⟨hl0, hl1, hlS⟩
                    · --lock
                      refine rm_iload hc dL_yard_323 rfl ?_
                      refine rm_if_eq (tgt := 465) hc dL_yard_325 (by decide) (fun h => absurd h (by decide)) (fun _ => ?_)
                      refine rm_aload_n hc dL_yard_328 rfl rfl ?_
                      refine rm_iload hc dL_yard_329 rfl ?_
                      refine rm_iconst (v := 3) hc dL_yard_331 (by decide) ?_
                      refine rm_calliV (As := [.int (nI (dd)), .int 3]) (rest := []) hc dL_yard_332 (c_X8_door hI y_37 (d := dd) (by omega) 3 (by decide) (by decide)) mv_L_41 dm_9 rfl rfl (hn := rfl) (hst := rfl) (hw := Nat.le_of_ble_eq_true rfl) (hR := ⟨⟨rfl, rfl⟩, Nat.le_of_ble_eq_true rfl, Nat.le_of_ble_eq_true rfl⟩) (hnc := ⟨Nat.zero_le _, Nat.zero_le _⟩) (fun r_87 y_87 h_87 => ?_)
                      obtain ⟨e_87, ey_87⟩ := h_87
                      obtain rfl := ey_87.symm
                      obtain rfl : r_87 = (ps (ql x dd) 4) := e_87.trans ((lkD_e hE_37).trans (lkD_3 x _ _))
                      refine rm_iload hc dL_yard_335 rfl ?_
                      refine rm_icmp_ne (tgt := 465) hc dL_yard_337 (by decide) (fun h => absurd (by rw [show sd = 4 by omega]) h) (fun _ => ?_)
                      refine rm_aload_n hc dL_yard_340 rfl rfl ?_
                      refine rm_iload hc dL_yard_341 rfl ?_
                      refine rm_iconst (v := 2) hc dL_yard_343 (by decide) ?_
                      refine rm_calliV (As := [.int (nI (dd)), .int 2]) (rest := []) hc dL_yard_344 (c_X8_door hI y_37 (d := dd) (by omega) 2 (by decide) (by decide)) mv_L_41 dm_9 rfl rfl (hn := rfl) (hst := rfl) (hw := Nat.le_of_ble_eq_true rfl) (hR := ⟨⟨rfl, rfl⟩, Nat.le_of_ble_eq_true rfl, Nat.le_of_ble_eq_true rfl⟩) (hnc := ⟨Nat.zero_le _, Nat.zero_le _⟩) (fun r_89 y_89 h_89 => ?_)
                      obtain ⟨e_89, ey_89⟩ := h_89
                      obtain rfl := ey_89.symm
                      obtain rfl : r_89 = 0 := e_89.trans ((lkD_e hE_37).trans ((lkD_2 x _).trans (by unfold pl; rw [hlS]; rfl)))
                      refine rm_iconst (v := 1) hc dL_yard_347 (by decide) ?_
                      refine rm_icmp_ne (tgt := 355) hc dL_yard_348 (by decide) (fun _ => ?_) (fun h => absurd h (by decide))
                      refine rm_iconst (v := 0) hc dL_yard_355 (by decide) ?_
                      refine rm_aload_n hc dL_yard_356 rfl rfl ?_
                      refine rm_iconst (v := 2) hc dL_yard_357 (by decide) ?_
                      refine rm_calliV (As := [.int 2]) (rest := [.int 0]) hc dL_yard_358 (c_X8_setting hI y_37 2 (by decide) (by decide)) mv_L_47 dm_9 rfl rfl (hn := rfl) (hst := rfl) (hw := Nat.le_of_ble_eq_true rfl) (hR := ⟨⟨rfl, rfl⟩, Nat.le_of_ble_eq_true rfl, Nat.le_of_ble_eq_true rfl⟩) (hnc := ⟨Nat.zero_le _, Nat.zero_le _⟩) (fun r_91 y_91 h_91 => ?_)
                      obtain ⟨e_91, ey_91⟩ := h_91
                      obtain rfl := ey_91.symm
                      obtain rfl : r_91 = nI lk := e_91.trans ((val_e hE_37).trans ((val_2 x).trans hlk))
                      refine rm_if_le (tgt := 383) hc dL_yard_361 (by decide) (fun _ => ?_) (fun h => absurd ((nI_leI (a := lk) (b := 0) (by omega) (by omega)).mpr (by omega)) h)
                      refine rm_iconst (v := 0) hc dL_yard_383 (by decide) ?_
                      refine rm_icmp_ne (tgt := 465) hc dL_yard_384 (by decide) (fun h => absurd h (by decide)) (fun _ => ?_)
                      refine rm_iload hc dL_yard_387 rfl ?_
                      refine rm_iconst (v := -1) hc dL_yard_389 (by decide) ?_
                      refine rm_icmp_eq (tgt := 424) hc dL_yard_390 (by decide) (fun h => absurd h (nI_nm1 (by omega))) (fun _ => ?_)
                      refine rm_iload hc dL_yard_393 rfl ?_
                      refine rm_aload_n hc dL_yard_395 rfl rfl ?_
                      refine rm_bipush (v := 6) hc dL_yard_396 (by decide) ?_
                      refine rm_calliV (As := [.int 6]) (rest := [.int (nI (iu))]) hc dL_yard_398 (c_X8_count hI y_37 6 (by decide) (by decide)) mv_L_26 dm_9 rfl rfl (hn := rfl) (hst := rfl) (hw := Nat.le_of_ble_eq_true rfl) (hR := ⟨⟨rfl, rfl⟩, Nat.le_of_ble_eq_true rfl, Nat.le_of_ble_eq_true rfl⟩) (hnc := ⟨Nat.zero_le _, Nat.zero_le _⟩) (fun r_95 y_95 h_95 => ?_)
                      obtain ⟨e_95, ey_95⟩ := h_95
                      obtain rfl := ey_95.symm
                      obtain rfl : r_95 = nI nr := e_95.trans ((cnt_e hE_37).trans ((cnt_6 x).trans hnr))
                      refine rm_icmp_ge (tgt := 465) hc dL_yard_401 (by decide) (fun h => absurd h (fun h2 => absurd ((nI_leI (a := nr) (b := iu) (by omega) (by omega)).mp h2) (by omega))) (fun _ => ?_)
                      refine rm_aload_n hc dL_yard_404 rfl rfl ?_
                      refine rm_iload hc dL_yard_405 rfl ?_
                      refine rm_aload_n hc dL_yard_407 rfl rfl ?_
                      refine rm_iload hc dL_yard_408 rfl ?_
                      refine rm_calliV (As := [.int (nI (iu))]) (rest := [.int (nI (dd)), .ref (ad 8 9 0)]) hc dL_yard_410 (c_X8_air hI y_37 (nI (iu)) (nn_nI (by omega))) mv_L_30 dm_9 rfl rfl (hn := rfl) (hst := rfl) (hw := Nat.le_of_ble_eq_true rfl) (hR := ⟨⟨rfl, rfl⟩, Nat.le_of_ble_eq_true rfl, Nat.le_of_ble_eq_true rfl⟩) (hnc := ⟨Nat.zero_le _, Nat.zero_le _⟩) (fun r_97 y_97 h_97 => ?_)
                      obtain ⟨e_97, ey_97⟩ := h_97
                      obtain rfl := ey_97.symm
                      obtain rfl : r_97 = nI qa := e_97.trans (hE_37.num.trans ((num_n (by omega) hr8 hnr).trans eqa))
                      refine rm_calliV (As := [.int (nI (dd)), .int (nI (qa))]) (rest := []) hc dL_yard_413 (c_X8_ifHeard hI y_37 (d := dd) (by omega) mm (by omega) ((hE_37.at (by omega)).trans hw) (hE_37.flg (by omega) hF) (nI (qa)) (nn_nI (by omega)) (nle_nI (a := qa) (b := 65535) (by omega) (by omega))) mv_L_50 dm_9 rfl rfl (hn := rfl) (hst := rfl) (hw := Nat.le_of_ble_eq_true rfl) (hR := ⟨⟨rfl, rfl⟩, Nat.le_of_ble_eq_true rfl, Nat.le_of_ble_eq_true rfl⟩) (hnc := ⟨Nat.zero_le _, Nat.zero_le _⟩) (fun r_98 y_98 h_98 => ?_)
                      obtain ⟨e_98, ey_98⟩ := h_98
                      have hE_98 : E7 x y_98 := hE_37.tr ey_98
                      obtain rfl : r_98 = 0 := e_98.trans (hE_37.hrd.trans (by rw [← eqn]; exact hhu))
                      refine rm_if_ne (tgt := 465) hc dL_yard_416 (by decide) (fun h => absurd h (by decide)) (fun _ => ?_)
                      refine rm_iload hc dL_yard_419 rfl ?_
                      refine rm_if_le (tgt := 465) hc dL_yard_421 (by decide) (fun h => absurd h (by rw [show sd = 4 by omega, hlp]; exact fun h8 => absurd ((nI_leI (a := ln) (b := 0) (by omega) (by omega)).mp h8) (by omega))) (fun _ => ?_)
                      refine rm_aload_n hc dL_yard_424 rfl rfl ?_
                      refine rm_iload hc dL_yard_425 rfl ?_
                      refine rm_sipush (v := 31000) hc dL_yard_427 (by decide) ?_
                      refine rm_calliV (As := [.int (nI (dd)), .int 31000]) (rest := []) hc dL_yard_430 (c_X8_ifHeard hI y_98 (d := dd) (by omega) mm (by omega) ((hE_98.at (by omega)).trans hw) (hE_98.flg (by omega) hF) 31000 (by decide) (by decide)) mv_L_50 dm_9 rfl rfl (hn := rfl) (hst := rfl) (hw := Nat.le_of_ble_eq_true rfl) (hR := ⟨⟨rfl, rfl⟩, Nat.le_of_ble_eq_true rfl, Nat.le_of_ble_eq_true rfl⟩) (hnc := ⟨Nat.zero_le _, Nat.zero_le _⟩) (fun r_101 y_101 h_101 => ?_)
                      obtain ⟨e_101, ey_101⟩ := h_101
                      have hE_101 : E7 x y_101 := hE_98.tr ey_101
                      have hnl : ¬ r_101 = 3 := by rw [e_101, hE_98.hrd]; exact hrl_0 hlS
                      refine rm_iconst (v := 3) hc dL_yard_433 (by decide) ?_
                      refine rm_icmp_ne (tgt := 441) hc dL_yard_434 (by decide) (fun _ => ?_) (fun h => absurd h hnl)
                      refine rm_iconst (v := 0) hc dL_yard_441 (by decide) ?_
                      refine rm_aload_n hc dL_yard_442 rfl rfl ?_
                      refine rm_iload hc dL_yard_443 rfl ?_
                      refine rm_iconst (v := 2) hc dL_yard_445 (by decide) ?_
                      refine rm_calliV (As := [.int (nI (dd)), .int 2]) (rest := [.int 0]) hc dL_yard_446 (c_X8_door hI y_101 (d := dd) (by omega) 2 (by decide) (by decide)) mv_L_41 dm_9 rfl rfl (hn := rfl) (hst := rfl) (hw := Nat.le_of_ble_eq_true rfl) (hR := ⟨⟨rfl, rfl⟩, Nat.le_of_ble_eq_true rfl, Nat.le_of_ble_eq_true rfl⟩) (hnc := ⟨Nat.zero_le _, Nat.zero_le _⟩) (fun r_103 y_103 h_103 => ?_)
                      obtain ⟨e_103, ey_103⟩ := h_103
                      obtain rfl := ey_103.symm
                      obtain rfl : r_103 = 0 := e_103.trans ((lkD_e hE_101).trans ((lkD_2 x _).trans (by unfold pl; rw [hlS]; rfl)))
                      refine rm_iconst (v := 1) hc dL_yard_449 (by decide) ?_
                      refine rm_icmp_ne (tgt := 457) hc dL_yard_450 (by decide) (fun _ => ?_) (fun h => absurd h (by decide))
                      refine rm_iconst (v := 0) hc dL_yard_457 (by decide) ?_
                      refine rm_icmp_ne (tgt := 465) hc dL_yard_458 (by decide) (fun h => absurd h (by decide)) (fun _ => ?_)
                      refine rm_iconst (v := 1) hc dL_yard_461 (by decide) ?_
                      refine rm_goto (tgt := 466) hc dL_yard_462 (by decide) ?_
                      refine rm_istore (ls' := [(0, .ref (ad 8 9 0)), (1, .int (ps (pf x) 4)), (2, .int (ps (po x) (dd + 1))), (3, .int (ps (pn x) (dd + 1))), (4, .int (ps (pl x) (dd + 1))), (5, .int 1), (6, .int (nI (dd))), (7, .int (ps (ql x dd) sd)), (8, .int (nI (iu)))]) hc dL_yard_466 (by decide) rfl ?_
                      refine rm_iinc (v := (nI (dd + 1))) (ls' := [(0, .ref (ad 8 9 0)), (1, .int (ps (pf x) 4)), (2, .int (ps (po x) (dd + 1))), (3, .int (ps (pn x) (dd + 1))), (4, .int (ps (pl x) (dd + 1))), (5, .int 1), (6, .int (nI (dd + 1))), (7, .int (ps (ql x dd) sd)), (8, .int (nI (iu)))]) hc dL_yard_468 rfl (nIj (by omega)) (by decide) rfl ?_
                      refine rm_goto (tgt := 134) hc dL_yard_471 (by decide) ?_
                      refine rm_sub [0, 1, 2, 3, 4, 5, 6] rfl ?_
                      exact ihC (dd + 1) _ (by omega) hE_101
                    · --lock
                      refine rm_iload hc dL_yard_323 rfl ?_
                      refine rm_if_eq (tgt := 465) hc dL_yard_325 (by decide) (fun h => absurd h (by decide)) (fun _ => ?_)
                      refine rm_aload_n hc dL_yard_328 rfl rfl ?_
                      refine rm_iload hc dL_yard_329 rfl ?_
                      refine rm_iconst (v := 3) hc dL_yard_331 (by decide) ?_
                      refine rm_calliV (As := [.int (nI (dd)), .int 3]) (rest := []) hc dL_yard_332 (c_X8_door hI y_37 (d := dd) (by omega) 3 (by decide) (by decide)) mv_L_41 dm_9 rfl rfl (hn := rfl) (hst := rfl) (hw := Nat.le_of_ble_eq_true rfl) (hR := ⟨⟨rfl, rfl⟩, Nat.le_of_ble_eq_true rfl, Nat.le_of_ble_eq_true rfl⟩) (hnc := ⟨Nat.zero_le _, Nat.zero_le _⟩) (fun r_107 y_107 h_107 => ?_)
                      obtain ⟨e_107, ey_107⟩ := h_107
                      obtain rfl := ey_107.symm
                      obtain rfl : r_107 = (ps (ql x dd) 4) := e_107.trans ((lkD_e hE_37).trans (lkD_3 x _ _))
                      refine rm_iload hc dL_yard_335 rfl ?_
                      refine rm_icmp_ne (tgt := 465) hc dL_yard_337 (by decide) (fun h => absurd (by rw [show sd = 4 by omega]) h) (fun _ => ?_)
                      refine rm_aload_n hc dL_yard_340 rfl rfl ?_
                      refine rm_iload hc dL_yard_341 rfl ?_
                      refine rm_iconst (v := 2) hc dL_yard_343 (by decide) ?_
                      refine rm_calliV (As := [.int (nI (dd)), .int 2]) (rest := []) hc dL_yard_344 (c_X8_door hI y_37 (d := dd) (by omega) 2 (by decide) (by decide)) mv_L_41 dm_9 rfl rfl (hn := rfl) (hst := rfl) (hw := Nat.le_of_ble_eq_true rfl) (hR := ⟨⟨rfl, rfl⟩, Nat.le_of_ble_eq_true rfl, Nat.le_of_ble_eq_true rfl⟩) (hnc := ⟨Nat.zero_le _, Nat.zero_le _⟩) (fun r_109 y_109 h_109 => ?_)
                      obtain ⟨e_109, ey_109⟩ := h_109
                      obtain rfl := ey_109.symm
                      obtain rfl : r_109 = 0 := e_109.trans ((lkD_e hE_37).trans ((lkD_2 x _).trans (by unfold pl; rw [hlS]; rfl)))
                      refine rm_iconst (v := 1) hc dL_yard_347 (by decide) ?_
                      refine rm_icmp_ne (tgt := 355) hc dL_yard_348 (by decide) (fun _ => ?_) (fun h => absurd h (by decide))
                      refine rm_iconst (v := 0) hc dL_yard_355 (by decide) ?_
                      refine rm_aload_n hc dL_yard_356 rfl rfl ?_
                      refine rm_iconst (v := 2) hc dL_yard_357 (by decide) ?_
                      refine rm_calliV (As := [.int 2]) (rest := [.int 0]) hc dL_yard_358 (c_X8_setting hI y_37 2 (by decide) (by decide)) mv_L_47 dm_9 rfl rfl (hn := rfl) (hst := rfl) (hw := Nat.le_of_ble_eq_true rfl) (hR := ⟨⟨rfl, rfl⟩, Nat.le_of_ble_eq_true rfl, Nat.le_of_ble_eq_true rfl⟩) (hnc := ⟨Nat.zero_le _, Nat.zero_le _⟩) (fun r_111 y_111 h_111 => ?_)
                      obtain ⟨e_111, ey_111⟩ := h_111
                      obtain rfl := ey_111.symm
                      obtain rfl : r_111 = nI lk := e_111.trans ((val_e hE_37).trans ((val_2 x).trans hlk))
                      refine rm_if_le (tgt := 383) hc dL_yard_361 (by decide) (fun h => absurd h (fun h2 => absurd ((nI_leI (a := lk) (b := 0) (by omega) (by omega)).mp h2) (by omega))) (fun _ => ?_)
                      refine rm_aload_n hc dL_yard_364 rfl rfl ?_
                      refine rm_iload hc dL_yard_365 rfl ?_
                      refine rm_iconst (v := 1) hc dL_yard_367 (by decide) ?_
                      refine rm_calliV (As := [.int (nI (dd)), .int 1]) (rest := [.int 0]) hc dL_yard_368 (c_X8_door hI y_37 (d := dd) (by omega) 1 (by decide) (by decide)) mv_L_41 dm_9 rfl rfl (hn := rfl) (hst := rfl) (hw := Nat.le_of_ble_eq_true rfl) (hR := ⟨⟨rfl, rfl⟩, Nat.le_of_ble_eq_true rfl, Nat.le_of_ble_eq_true rfl⟩) (hnc := ⟨Nat.zero_le _, Nat.zero_le _⟩) (fun r_113 y_113 h_113 => ?_)
                      obtain ⟨e_113, ey_113⟩ := h_113
                      obtain rfl := ey_113.symm
                      obtain rfl : r_113 = nI wr := e_113.trans ((lkD_e hE_37).trans ((lkD_1 x _ _).trans hwr))
                      refine rm_aload_n hc dL_yard_371 rfl rfl ?_
                      refine rm_iconst (v := 2) hc dL_yard_372 (by decide) ?_
                      refine rm_calliV (As := [.int 2]) (rest := [.int (nI (wr)), .int 0]) hc dL_yard_373 (c_X8_setting hI y_37 2 (by decide) (by decide)) mv_L_47 dm_9 rfl rfl (hn := rfl) (hst := rfl) (hw := Nat.le_of_ble_eq_true rfl) (hR := ⟨⟨rfl, rfl⟩, Nat.le_of_ble_eq_true rfl, Nat.le_of_ble_eq_true rfl⟩) (hnc := ⟨Nat.zero_le _, Nat.zero_le _⟩) (fun r_114 y_114 h_114 => ?_)
                      obtain ⟨e_114, ey_114⟩ := h_114
                      obtain rfl := ey_114.symm
                      obtain rfl : r_114 = nI lk := e_114.trans ((val_e hE_37).trans ((val_2 x).trans hlk))
                      refine rm_icmp_lt (tgt := 383) hc dL_yard_376 (by decide) (fun _ => ?_) (fun h => absurd ((nI_ltI (a := wr) (b := lk) (by omega) (by omega)).mpr (by omega)) h)
                      refine rm_iconst (v := 0) hc dL_yard_383 (by decide) ?_
                      refine rm_icmp_ne (tgt := 465) hc dL_yard_384 (by decide) (fun h => absurd h (by decide)) (fun _ => ?_)
                      refine rm_iload hc dL_yard_387 rfl ?_
                      refine rm_iconst (v := -1) hc dL_yard_389 (by decide) ?_
                      refine rm_icmp_eq (tgt := 424) hc dL_yard_390 (by decide) (fun h => absurd h (nI_nm1 (by omega))) (fun _ => ?_)
                      refine rm_iload hc dL_yard_393 rfl ?_
                      refine rm_aload_n hc dL_yard_395 rfl rfl ?_
                      refine rm_bipush (v := 6) hc dL_yard_396 (by decide) ?_
                      refine rm_calliV (As := [.int 6]) (rest := [.int (nI (iu))]) hc dL_yard_398 (c_X8_count hI y_37 6 (by decide) (by decide)) mv_L_26 dm_9 rfl rfl (hn := rfl) (hst := rfl) (hw := Nat.le_of_ble_eq_true rfl) (hR := ⟨⟨rfl, rfl⟩, Nat.le_of_ble_eq_true rfl, Nat.le_of_ble_eq_true rfl⟩) (hnc := ⟨Nat.zero_le _, Nat.zero_le _⟩) (fun r_118 y_118 h_118 => ?_)
                      obtain ⟨e_118, ey_118⟩ := h_118
                      obtain rfl := ey_118.symm
                      obtain rfl : r_118 = nI nr := e_118.trans ((cnt_e hE_37).trans ((cnt_6 x).trans hnr))
                      refine rm_icmp_ge (tgt := 465) hc dL_yard_401 (by decide) (fun h => absurd h (fun h2 => absurd ((nI_leI (a := nr) (b := iu) (by omega) (by omega)).mp h2) (by omega))) (fun _ => ?_)
                      refine rm_aload_n hc dL_yard_404 rfl rfl ?_
                      refine rm_iload hc dL_yard_405 rfl ?_
                      refine rm_aload_n hc dL_yard_407 rfl rfl ?_
                      refine rm_iload hc dL_yard_408 rfl ?_
                      refine rm_calliV (As := [.int (nI (iu))]) (rest := [.int (nI (dd)), .ref (ad 8 9 0)]) hc dL_yard_410 (c_X8_air hI y_37 (nI (iu)) (nn_nI (by omega))) mv_L_30 dm_9 rfl rfl (hn := rfl) (hst := rfl) (hw := Nat.le_of_ble_eq_true rfl) (hR := ⟨⟨rfl, rfl⟩, Nat.le_of_ble_eq_true rfl, Nat.le_of_ble_eq_true rfl⟩) (hnc := ⟨Nat.zero_le _, Nat.zero_le _⟩) (fun r_120 y_120 h_120 => ?_)
                      obtain ⟨e_120, ey_120⟩ := h_120
                      obtain rfl := ey_120.symm
                      obtain rfl : r_120 = nI qa := e_120.trans (hE_37.num.trans ((num_n (by omega) hr8 hnr).trans eqa))
                      refine rm_calliV (As := [.int (nI (dd)), .int (nI (qa))]) (rest := []) hc dL_yard_413 (c_X8_ifHeard hI y_37 (d := dd) (by omega) mm (by omega) ((hE_37.at (by omega)).trans hw) (hE_37.flg (by omega) hF) (nI (qa)) (nn_nI (by omega)) (nle_nI (a := qa) (b := 65535) (by omega) (by omega))) mv_L_50 dm_9 rfl rfl (hn := rfl) (hst := rfl) (hw := Nat.le_of_ble_eq_true rfl) (hR := ⟨⟨rfl, rfl⟩, Nat.le_of_ble_eq_true rfl, Nat.le_of_ble_eq_true rfl⟩) (hnc := ⟨Nat.zero_le _, Nat.zero_le _⟩) (fun r_121 y_121 h_121 => ?_)
                      obtain ⟨e_121, ey_121⟩ := h_121
                      have hE_121 : E7 x y_121 := hE_37.tr ey_121
                      obtain rfl : r_121 = 0 := e_121.trans (hE_37.hrd.trans (by rw [← eqn]; exact hhu))
                      refine rm_if_ne (tgt := 465) hc dL_yard_416 (by decide) (fun h => absurd h (by decide)) (fun _ => ?_)
                      refine rm_iload hc dL_yard_419 rfl ?_
                      refine rm_if_le (tgt := 465) hc dL_yard_421 (by decide) (fun h => absurd h (by rw [show sd = 4 by omega, hlp]; exact fun h8 => absurd ((nI_leI (a := ln) (b := 0) (by omega) (by omega)).mp h8) (by omega))) (fun _ => ?_)
                      refine rm_aload_n hc dL_yard_424 rfl rfl ?_
                      refine rm_iload hc dL_yard_425 rfl ?_
                      refine rm_sipush (v := 31000) hc dL_yard_427 (by decide) ?_
                      refine rm_calliV (As := [.int (nI (dd)), .int 31000]) (rest := []) hc dL_yard_430 (c_X8_ifHeard hI y_121 (d := dd) (by omega) mm (by omega) ((hE_121.at (by omega)).trans hw) (hE_121.flg (by omega) hF) 31000 (by decide) (by decide)) mv_L_50 dm_9 rfl rfl (hn := rfl) (hst := rfl) (hw := Nat.le_of_ble_eq_true rfl) (hR := ⟨⟨rfl, rfl⟩, Nat.le_of_ble_eq_true rfl, Nat.le_of_ble_eq_true rfl⟩) (hnc := ⟨Nat.zero_le _, Nat.zero_le _⟩) (fun r_124 y_124 h_124 => ?_)
                      obtain ⟨e_124, ey_124⟩ := h_124
                      have hE_124 : E7 x y_124 := hE_121.tr ey_124
                      have hnl : ¬ r_124 = 3 := by rw [e_124, hE_121.hrd]; exact hrl_0 hlS
                      refine rm_iconst (v := 3) hc dL_yard_433 (by decide) ?_
                      refine rm_icmp_ne (tgt := 441) hc dL_yard_434 (by decide) (fun _ => ?_) (fun h => absurd h hnl)
                      refine rm_iconst (v := 0) hc dL_yard_441 (by decide) ?_
                      refine rm_aload_n hc dL_yard_442 rfl rfl ?_
                      refine rm_iload hc dL_yard_443 rfl ?_
                      refine rm_iconst (v := 2) hc dL_yard_445 (by decide) ?_
                      refine rm_calliV (As := [.int (nI (dd)), .int 2]) (rest := [.int 0]) hc dL_yard_446 (c_X8_door hI y_124 (d := dd) (by omega) 2 (by decide) (by decide)) mv_L_41 dm_9 rfl rfl (hn := rfl) (hst := rfl) (hw := Nat.le_of_ble_eq_true rfl) (hR := ⟨⟨rfl, rfl⟩, Nat.le_of_ble_eq_true rfl, Nat.le_of_ble_eq_true rfl⟩) (hnc := ⟨Nat.zero_le _, Nat.zero_le _⟩) (fun r_126 y_126 h_126 => ?_)
                      obtain ⟨e_126, ey_126⟩ := h_126
                      obtain rfl := ey_126.symm
                      obtain rfl : r_126 = 0 := e_126.trans ((lkD_e hE_124).trans ((lkD_2 x _).trans (by unfold pl; rw [hlS]; rfl)))
                      refine rm_iconst (v := 1) hc dL_yard_449 (by decide) ?_
                      refine rm_icmp_ne (tgt := 457) hc dL_yard_450 (by decide) (fun _ => ?_) (fun h => absurd h (by decide))
                      refine rm_iconst (v := 0) hc dL_yard_457 (by decide) ?_
                      refine rm_icmp_ne (tgt := 465) hc dL_yard_458 (by decide) (fun h => absurd h (by decide)) (fun _ => ?_)
                      refine rm_iconst (v := 1) hc dL_yard_461 (by decide) ?_
                      refine rm_goto (tgt := 466) hc dL_yard_462 (by decide) ?_
                      refine rm_istore (ls' := [(0, .ref (ad 8 9 0)), (1, .int (ps (pf x) 4)), (2, .int (ps (po x) (dd + 1))), (3, .int (ps (pn x) (dd + 1))), (4, .int (ps (pl x) (dd + 1))), (5, .int 1), (6, .int (nI (dd))), (7, .int (ps (ql x dd) sd)), (8, .int (nI (iu)))]) hc dL_yard_466 (by decide) rfl ?_
                      refine rm_iinc (v := (nI (dd + 1))) (ls' := [(0, .ref (ad 8 9 0)), (1, .int (ps (pf x) 4)), (2, .int (ps (po x) (dd + 1))), (3, .int (ps (pn x) (dd + 1))), (4, .int (ps (pl x) (dd + 1))), (5, .int 1), (6, .int (nI (dd + 1))), (7, .int (ps (ql x dd) sd)), (8, .int (nI (iu)))]) hc dL_yard_468 rfl (nIj (by omega)) (by decide) rfl ?_
                      refine rm_goto (tgt := 134) hc dL_yard_471 (by decide) ?_
                      refine rm_sub [0, 1, 2, 3, 4, 5, 6] rfl ?_
                      exact ihC (dd + 1) _ (by omega) hE_124
                    · --lock
                      refine rm_iload hc dL_yard_323 rfl ?_
                      refine rm_if_eq (tgt := 465) hc dL_yard_325 (by decide) (fun h => absurd h (by decide)) (fun _ => ?_)
                      refine rm_aload_n hc dL_yard_328 rfl rfl ?_
                      refine rm_iload hc dL_yard_329 rfl ?_
                      refine rm_iconst (v := 3) hc dL_yard_331 (by decide) ?_
                      refine rm_calliV (As := [.int (nI (dd)), .int 3]) (rest := []) hc dL_yard_332 (c_X8_door hI y_37 (d := dd) (by omega) 3 (by decide) (by decide)) mv_L_41 dm_9 rfl rfl (hn := rfl) (hst := rfl) (hw := Nat.le_of_ble_eq_true rfl) (hR := ⟨⟨rfl, rfl⟩, Nat.le_of_ble_eq_true rfl, Nat.le_of_ble_eq_true rfl⟩) (hnc := ⟨Nat.zero_le _, Nat.zero_le _⟩) (fun r_130 y_130 h_130 => ?_)
                      obtain ⟨e_130, ey_130⟩ := h_130
                      obtain rfl := ey_130.symm
                      obtain rfl : r_130 = (ps (ql x dd) 4) := e_130.trans ((lkD_e hE_37).trans (lkD_3 x _ _))
                      refine rm_iload hc dL_yard_335 rfl ?_
                      refine rm_icmp_ne (tgt := 465) hc dL_yard_337 (by decide) (fun h => absurd (by rw [show sd = 4 by omega]) h) (fun _ => ?_)
                      refine rm_aload_n hc dL_yard_340 rfl rfl ?_
                      refine rm_iload hc dL_yard_341 rfl ?_
                      refine rm_iconst (v := 2) hc dL_yard_343 (by decide) ?_
                      refine rm_calliV (As := [.int (nI (dd)), .int 2]) (rest := []) hc dL_yard_344 (c_X8_door hI y_37 (d := dd) (by omega) 2 (by decide) (by decide)) mv_L_41 dm_9 rfl rfl (hn := rfl) (hst := rfl) (hw := Nat.le_of_ble_eq_true rfl) (hR := ⟨⟨rfl, rfl⟩, Nat.le_of_ble_eq_true rfl, Nat.le_of_ble_eq_true rfl⟩) (hnc := ⟨Nat.zero_le _, Nat.zero_le _⟩) (fun r_132 y_132 h_132 => ?_)
                      obtain ⟨e_132, ey_132⟩ := h_132
                      obtain rfl := ey_132.symm
                      obtain rfl : r_132 = 1 := e_132.trans ((lkD_e hE_37).trans ((lkD_2 x _).trans (by unfold pl; rw [hlS]; rfl)))
                      refine rm_iconst (v := 1) hc dL_yard_347 (by decide) ?_
                      refine rm_icmp_ne (tgt := 355) hc dL_yard_348 (by decide) (fun h => absurd h (by decide)) (fun _ => ?_)
                      refine rm_iconst (v := 1) hc dL_yard_351 (by decide) ?_
                      refine rm_goto (tgt := 356) hc dL_yard_352 (by decide) ?_
                      refine rm_aload_n hc dL_yard_356 rfl rfl ?_
                      refine rm_iconst (v := 2) hc dL_yard_357 (by decide) ?_
                      refine rm_calliV (As := [.int 2]) (rest := [.int 1]) hc dL_yard_358 (c_X8_setting hI y_37 2 (by decide) (by decide)) mv_L_47 dm_9 rfl rfl (hn := rfl) (hst := rfl) (hw := Nat.le_of_ble_eq_true rfl) (hR := ⟨⟨rfl, rfl⟩, Nat.le_of_ble_eq_true rfl, Nat.le_of_ble_eq_true rfl⟩) (hnc := ⟨Nat.zero_le _, Nat.zero_le _⟩) (fun r_134 y_134 h_134 => ?_)
                      obtain ⟨e_134, ey_134⟩ := h_134
                      obtain rfl := ey_134.symm
                      obtain rfl : r_134 = nI lk := e_134.trans ((val_e hE_37).trans ((val_2 x).trans hlk))
                      refine rm_if_le (tgt := 383) hc dL_yard_361 (by decide) (fun h => absurd h (fun h2 => absurd ((nI_leI (a := lk) (b := 0) (by omega) (by omega)).mp h2) (by omega))) (fun _ => ?_)
                      refine rm_aload_n hc dL_yard_364 rfl rfl ?_
                      refine rm_iload hc dL_yard_365 rfl ?_
                      refine rm_iconst (v := 1) hc dL_yard_367 (by decide) ?_
                      refine rm_calliV (As := [.int (nI (dd)), .int 1]) (rest := [.int 1]) hc dL_yard_368 (c_X8_door hI y_37 (d := dd) (by omega) 1 (by decide) (by decide)) mv_L_41 dm_9 rfl rfl (hn := rfl) (hst := rfl) (hw := Nat.le_of_ble_eq_true rfl) (hR := ⟨⟨rfl, rfl⟩, Nat.le_of_ble_eq_true rfl, Nat.le_of_ble_eq_true rfl⟩) (hnc := ⟨Nat.zero_le _, Nat.zero_le _⟩) (fun r_136 y_136 h_136 => ?_)
                      obtain ⟨e_136, ey_136⟩ := h_136
                      obtain rfl := ey_136.symm
                      obtain rfl : r_136 = nI wr := e_136.trans ((lkD_e hE_37).trans ((lkD_1 x _ _).trans hwr))
                      refine rm_aload_n hc dL_yard_371 rfl rfl ?_
                      refine rm_iconst (v := 2) hc dL_yard_372 (by decide) ?_
                      refine rm_calliV (As := [.int 2]) (rest := [.int (nI (wr)), .int 1]) hc dL_yard_373 (c_X8_setting hI y_37 2 (by decide) (by decide)) mv_L_47 dm_9 rfl rfl (hn := rfl) (hst := rfl) (hw := Nat.le_of_ble_eq_true rfl) (hR := ⟨⟨rfl, rfl⟩, Nat.le_of_ble_eq_true rfl, Nat.le_of_ble_eq_true rfl⟩) (hnc := ⟨Nat.zero_le _, Nat.zero_le _⟩) (fun r_137 y_137 h_137 => ?_)
                      obtain ⟨e_137, ey_137⟩ := h_137
                      obtain rfl := ey_137.symm
                      obtain rfl : r_137 = nI lk := e_137.trans ((val_e hE_37).trans ((val_2 x).trans hlk))
                      refine rm_icmp_lt (tgt := 383) hc dL_yard_376 (by decide) (fun h => absurd h (fun h2 => absurd ((nI_ltI (a := wr) (b := lk) (by omega) (by omega)).mp h2) (by omega))) (fun _ => ?_)
                      refine rm_iconst (v := 1) hc dL_yard_379 (by decide) ?_
                      refine rm_goto (tgt := 384) hc dL_yard_380 (by decide) ?_
                      refine rm_icmp_ne (tgt := 465) hc dL_yard_384 (by decide) (fun h => absurd h (by decide)) (fun _ => ?_)
                      refine rm_iload hc dL_yard_387 rfl ?_
                      refine rm_iconst (v := -1) hc dL_yard_389 (by decide) ?_
                      refine rm_icmp_eq (tgt := 424) hc dL_yard_390 (by decide) (fun h => absurd h (nI_nm1 (by omega))) (fun _ => ?_)
                      refine rm_iload hc dL_yard_393 rfl ?_
                      refine rm_aload_n hc dL_yard_395 rfl rfl ?_
                      refine rm_bipush (v := 6) hc dL_yard_396 (by decide) ?_
                      refine rm_calliV (As := [.int 6]) (rest := [.int (nI (iu))]) hc dL_yard_398 (c_X8_count hI y_37 6 (by decide) (by decide)) mv_L_26 dm_9 rfl rfl (hn := rfl) (hst := rfl) (hw := Nat.le_of_ble_eq_true rfl) (hR := ⟨⟨rfl, rfl⟩, Nat.le_of_ble_eq_true rfl, Nat.le_of_ble_eq_true rfl⟩) (hnc := ⟨Nat.zero_le _, Nat.zero_le _⟩) (fun r_141 y_141 h_141 => ?_)
                      obtain ⟨e_141, ey_141⟩ := h_141
                      obtain rfl := ey_141.symm
                      obtain rfl : r_141 = nI nr := e_141.trans ((cnt_e hE_37).trans ((cnt_6 x).trans hnr))
                      refine rm_icmp_ge (tgt := 465) hc dL_yard_401 (by decide) (fun h => absurd h (fun h2 => absurd ((nI_leI (a := nr) (b := iu) (by omega) (by omega)).mp h2) (by omega))) (fun _ => ?_)
                      refine rm_aload_n hc dL_yard_404 rfl rfl ?_
                      refine rm_iload hc dL_yard_405 rfl ?_
                      refine rm_aload_n hc dL_yard_407 rfl rfl ?_
                      refine rm_iload hc dL_yard_408 rfl ?_
                      refine rm_calliV (As := [.int (nI (iu))]) (rest := [.int (nI (dd)), .ref (ad 8 9 0)]) hc dL_yard_410 (c_X8_air hI y_37 (nI (iu)) (nn_nI (by omega))) mv_L_30 dm_9 rfl rfl (hn := rfl) (hst := rfl) (hw := Nat.le_of_ble_eq_true rfl) (hR := ⟨⟨rfl, rfl⟩, Nat.le_of_ble_eq_true rfl, Nat.le_of_ble_eq_true rfl⟩) (hnc := ⟨Nat.zero_le _, Nat.zero_le _⟩) (fun r_143 y_143 h_143 => ?_)
                      obtain ⟨e_143, ey_143⟩ := h_143
                      obtain rfl := ey_143.symm
                      obtain rfl : r_143 = nI qa := e_143.trans (hE_37.num.trans ((num_n (by omega) hr8 hnr).trans eqa))
                      refine rm_calliV (As := [.int (nI (dd)), .int (nI (qa))]) (rest := []) hc dL_yard_413 (c_X8_ifHeard hI y_37 (d := dd) (by omega) mm (by omega) ((hE_37.at (by omega)).trans hw) (hE_37.flg (by omega) hF) (nI (qa)) (nn_nI (by omega)) (nle_nI (a := qa) (b := 65535) (by omega) (by omega))) mv_L_50 dm_9 rfl rfl (hn := rfl) (hst := rfl) (hw := Nat.le_of_ble_eq_true rfl) (hR := ⟨⟨rfl, rfl⟩, Nat.le_of_ble_eq_true rfl, Nat.le_of_ble_eq_true rfl⟩) (hnc := ⟨Nat.zero_le _, Nat.zero_le _⟩) (fun r_144 y_144 h_144 => ?_)
                      obtain ⟨e_144, ey_144⟩ := h_144
                      have hE_144 : E7 x y_144 := hE_37.tr ey_144
                      obtain rfl : r_144 = 0 := e_144.trans (hE_37.hrd.trans (by rw [← eqn]; exact hhu))
                      refine rm_if_ne (tgt := 465) hc dL_yard_416 (by decide) (fun h => absurd h (by decide)) (fun _ => ?_)
                      refine rm_iload hc dL_yard_419 rfl ?_
                      refine rm_if_le (tgt := 465) hc dL_yard_421 (by decide) (fun h => absurd h (by rw [show sd = 4 by omega, hlp]; exact fun h8 => absurd ((nI_leI (a := ln) (b := 0) (by omega) (by omega)).mp h8) (by omega))) (fun _ => ?_)
                      refine rm_aload_n hc dL_yard_424 rfl rfl ?_
                      refine rm_iload hc dL_yard_425 rfl ?_
                      refine rm_sipush (v := 31000) hc dL_yard_427 (by decide) ?_
                      refine rm_calliV (As := [.int (nI (dd)), .int 31000]) (rest := []) hc dL_yard_430 (c_X8_ifHeard hI y_144 (d := dd) (by omega) mm (by omega) ((hE_144.at (by omega)).trans hw) (hE_144.flg (by omega) hF) 31000 (by decide) (by decide)) mv_L_50 dm_9 rfl rfl (hn := rfl) (hst := rfl) (hw := Nat.le_of_ble_eq_true rfl) (hR := ⟨⟨rfl, rfl⟩, Nat.le_of_ble_eq_true rfl, Nat.le_of_ble_eq_true rfl⟩) (hnc := ⟨Nat.zero_le _, Nat.zero_le _⟩) (fun r_147 y_147 h_147 => ?_)
                      obtain ⟨e_147, ey_147⟩ := h_147
                      have hE_147 : E7 x y_147 := hE_144.tr ey_147
                      obtain rfl : r_147 = 3 := e_147.trans (hE_144.hrd.trans (hrl_1 hlS))
                      refine rm_iconst (v := 3) hc dL_yard_433 (by decide) ?_
                      refine rm_icmp_ne (tgt := 441) hc dL_yard_434 (by decide) (fun h => absurd h (by decide)) (fun _ => ?_)
                      refine rm_iconst (v := 1) hc dL_yard_437 (by decide) ?_
                      refine rm_goto (tgt := 442) hc dL_yard_438 (by decide) ?_
                      refine rm_aload_n hc dL_yard_442 rfl rfl ?_
                      refine rm_iload hc dL_yard_443 rfl ?_
                      refine rm_iconst (v := 2) hc dL_yard_445 (by decide) ?_
                      refine rm_calliV (As := [.int (nI (dd)), .int 2]) (rest := [.int 1]) hc dL_yard_446 (c_X8_door hI y_147 (d := dd) (by omega) 2 (by decide) (by decide)) mv_L_41 dm_9 rfl rfl (hn := rfl) (hst := rfl) (hw := Nat.le_of_ble_eq_true rfl) (hR := ⟨⟨rfl, rfl⟩, Nat.le_of_ble_eq_true rfl, Nat.le_of_ble_eq_true rfl⟩) (hnc := ⟨Nat.zero_le _, Nat.zero_le _⟩) (fun r_149 y_149 h_149 => ?_)
                      obtain ⟨e_149, ey_149⟩ := h_149
                      obtain rfl := ey_149.symm
                      obtain rfl : r_149 = 1 := e_149.trans ((lkD_e hE_147).trans ((lkD_2 x _).trans (by unfold pl; rw [hlS]; rfl)))
                      refine rm_iconst (v := 1) hc dL_yard_449 (by decide) ?_
                      refine rm_icmp_ne (tgt := 457) hc dL_yard_450 (by decide) (fun h => absurd h (by decide)) (fun _ => ?_)
                      refine rm_iconst (v := 1) hc dL_yard_453 (by decide) ?_
                      refine rm_goto (tgt := 458) hc dL_yard_454 (by decide) ?_
                      refine rm_icmp_ne (tgt := 465) hc dL_yard_458 (by decide) (fun h => absurd h (by decide)) (fun _ => ?_)
                      refine rm_iconst (v := 1) hc dL_yard_461 (by decide) ?_
                      refine rm_goto (tgt := 466) hc dL_yard_462 (by decide) ?_
                      refine rm_istore (ls' := [(0, .ref (ad 8 9 0)), (1, .int (ps (pf x) 4)), (2, .int (ps (po x) (dd + 1))), (3, .int (ps (pn x) (dd + 1))), (4, .int (ps (pl x) (dd + 1))), (5, .int 1), (6, .int (nI (dd))), (7, .int (ps (ql x dd) sd)), (8, .int (nI (iu)))]) hc dL_yard_466 (by decide) rfl ?_
                      refine rm_iinc (v := (nI (dd + 1))) (ls' := [(0, .ref (ad 8 9 0)), (1, .int (ps (pf x) 4)), (2, .int (ps (po x) (dd + 1))), (3, .int (ps (pn x) (dd + 1))), (4, .int (ps (pl x) (dd + 1))), (5, .int 1), (6, .int (nI (dd + 1))), (7, .int (ps (ql x dd) sd)), (8, .int (nI (iu)))]) hc dL_yard_468 rfl (nIj (by omega)) (by decide) rfl ?_
                      refine rm_goto (tgt := 134) hc dL_yard_471 (by decide) ?_
                      refine rm_sub [0, 1, 2, 3, 4, 5, 6] rfl ?_
                      exact ihC (dd + 1) _ (by omega) hE_147
                | succ fD ihD =>
                  intro sd hsd
                  refine rm_iload hc dL_yard_151 rfl ?_
                  refine rm_iconst (v := 4) hc dL_yard_153 (by decide) ?_
                  refine rm_icmp_ge (tgt := 283) hc dL_yard_154 (by decide) (fun h => absurd h (fun h2 => absurd ((nI_leI (a := 4) (b := sd) (by omega) (by omega)).mp h2) (by omega))) (fun _ => ?_)
                  refine rm_iload hc dL_yard_157 rfl ?_
                  refine rm_if_eq (tgt := 283) hc dL_yard_159 (by decide) (fun h => absurd h (by decide)) (fun _ => ?_)
                  rcases slot_or hc0 (d := dd) (s := sd) (by omega) (by omega) with ⟨u0, u1, u2, u3⟩ | ⟨u0, sa, sb, hsa, hsb, u1, u2, u3 | ⟨sc, hsc, u3⟩⟩
                  · --slot
                    refine rm_aload_n hc dL_yard_162 rfl rfl ?_
                    refine rm_iload hc dL_yard_163 rfl ?_
                    refine rm_iload hc dL_yard_165 rfl ?_
                    refine rm_iconst (v := 0) hc dL_yard_167 (by decide) ?_
                    refine rm_calliV (As := [.int (nI (dd)), .int (nI (sd)), .int 0]) (rest := []) hc dL_yard_168 (c_X8_slot hI zm (d := dd) (s0 := sd) (by omega) (by omega) 0 (by decide) (by decide)) mv_L_37 dm_9 rfl rfl (hn := rfl) (hst := rfl) (hw := Nat.le_of_ble_eq_true rfl) (hR := ⟨⟨rfl, rfl⟩, Nat.le_of_ble_eq_true rfl, Nat.le_of_ble_eq_true rfl⟩) (hnc := ⟨Nat.zero_le _, Nat.zero_le _⟩) (fun r_154 y_154 h_154 => ?_)
                    obtain ⟨e_154, ey_154⟩ := h_154
                    obtain rfl := ey_154.symm
                    obtain rfl : r_154 = 0 := e_154.trans ((lkS_e hE).trans u0)
                    refine rm_istore (ls' := [(0, .ref (ad 8 9 0)), (1, .int (ps (pf x) 4)), (2, .int (ps (po x) dd)), (3, .int (ps (pn x) dd)), (4, .int (ps (pl x) dd)), (5, .int 1), (6, .int (nI (dd))), (7, .int (ps (ql x dd) sd)), (8, .int (nI (sd))), (9, .int 0)]) hc dL_yard_171 (by decide) rfl ?_
                    refine rm_iload hc dL_yard_173 rfl ?_
                    refine rm_iload hc dL_yard_175 rfl ?_
                    refine rm_iadd hc dL_yard_177 (fun v_155 e_155 => ?_)
                    obtain rfl : v_155 = (ps (ql x dd) (sd + 1)) := e_155.trans (by show _ = ps (ql x dd) sd + lookSlot x 0 dd sd 0; rw [u0])
                    refine rm_istore (ls' := [(0, .ref (ad 8 9 0)), (1, .int (ps (pf x) 4)), (2, .int (ps (po x) dd)), (3, .int (ps (pn x) dd)), (4, .int (ps (pl x) dd)), (5, .int 1), (6, .int (nI (dd))), (7, .int (ps (ql x dd) (sd + 1))), (8, .int (nI (sd))), (9, .int 0)]) hc dL_yard_178 (by decide) rfl ?_
                    refine rm_iload hc dL_yard_180 rfl ?_
                    refine rm_iconst (v := 1) hc dL_yard_182 (by decide) ?_
                    refine rm_icmp_ne (tgt := 231) hc dL_yard_183 (by decide) (fun _ => ?_) (fun h => absurd h (by decide))
                    refine rm_aload_n hc dL_yard_231 rfl rfl ?_
                    refine rm_iload hc dL_yard_232 rfl ?_
                    refine rm_iload hc dL_yard_234 rfl ?_
                    refine rm_iconst (v := 1) hc dL_yard_236 (by decide) ?_
                    refine rm_calliV (As := [.int (nI (dd)), .int (nI (sd)), .int 1]) (rest := []) hc dL_yard_237 (c_X8_slot hI zm (d := dd) (s0 := sd) (by omega) (by omega) 1 (by decide) (by decide)) mv_L_37 dm_9 rfl rfl (hn := rfl) (hst := rfl) (hw := Nat.le_of_ble_eq_true rfl) (hR := ⟨⟨rfl, rfl⟩, Nat.le_of_ble_eq_true rfl, Nat.le_of_ble_eq_true rfl⟩) (hnc := ⟨Nat.zero_le _, Nat.zero_le _⟩) (fun r_157 y_157 h_157 => ?_)
                    obtain ⟨e_157, ey_157⟩ := h_157
                    obtain rfl := ey_157.symm
                    obtain rfl : r_157 = (-1) := e_157.trans ((lkS_e hE).trans u1)
                    refine rm_iconst (v := -1) hc dL_yard_240 (by decide) ?_
                    refine rm_icmp_ne (tgt := 274) hc dL_yard_241 (by decide) (fun h => absurd h (by decide)) (fun _ => ?_)
                    refine rm_aload_n hc dL_yard_244 rfl rfl ?_
                    refine rm_iload hc dL_yard_245 rfl ?_
                    refine rm_iload hc dL_yard_247 rfl ?_
                    refine rm_iconst (v := 2) hc dL_yard_249 (by decide) ?_
                    refine rm_calliV (As := [.int (nI (dd)), .int (nI (sd)), .int 2]) (rest := []) hc dL_yard_250 (c_X8_slot hI zm (d := dd) (s0 := sd) (by omega) (by omega) 2 (by decide) (by decide)) mv_L_37 dm_9 rfl rfl (hn := rfl) (hst := rfl) (hw := Nat.le_of_ble_eq_true rfl) (hR := ⟨⟨rfl, rfl⟩, Nat.le_of_ble_eq_true rfl, Nat.le_of_ble_eq_true rfl⟩) (hnc := ⟨Nat.zero_le _, Nat.zero_le _⟩) (fun r_159 y_159 h_159 => ?_)
                    obtain ⟨e_159, ey_159⟩ := h_159
                    obtain rfl := ey_159.symm
                    obtain rfl : r_159 = (-1) := e_159.trans ((lkS_e hE).trans u2)
                    refine rm_iconst (v := -1) hc dL_yard_253 (by decide) ?_
                    refine rm_icmp_ne (tgt := 274) hc dL_yard_254 (by decide) (fun h => absurd h (by decide)) (fun _ => ?_)
                    refine rm_aload_n hc dL_yard_257 rfl rfl ?_
                    refine rm_iload hc dL_yard_258 rfl ?_
                    refine rm_iload hc dL_yard_260 rfl ?_
                    refine rm_iconst (v := 3) hc dL_yard_262 (by decide) ?_
                    refine rm_calliV (As := [.int (nI (dd)), .int (nI (sd)), .int 3]) (rest := []) hc dL_yard_263 (c_X8_slot hI zm (d := dd) (s0 := sd) (by omega) (by omega) 3 (by decide) (by decide)) mv_L_37 dm_9 rfl rfl (hn := rfl) (hst := rfl) (hw := Nat.le_of_ble_eq_true rfl) (hR := ⟨⟨rfl, rfl⟩, Nat.le_of_ble_eq_true rfl, Nat.le_of_ble_eq_true rfl⟩) (hnc := ⟨Nat.zero_le _, Nat.zero_le _⟩) (fun r_161 y_161 h_161 => ?_)
                    obtain ⟨e_161, ey_161⟩ := h_161
                    obtain rfl := ey_161.symm
                    obtain rfl : r_161 = (-1) := e_161.trans ((lkS_e hE).trans u3)
                    refine rm_iconst (v := -1) hc dL_yard_266 (by decide) ?_
                    refine rm_icmp_ne (tgt := 274) hc dL_yard_267 (by decide) (fun h => absurd h (by decide)) (fun _ => ?_)
                    refine rm_iconst (v := 1) hc dL_yard_270 (by decide) ?_
                    refine rm_goto (tgt := 275) hc dL_yard_271 (by decide) ?_
                    refine rm_istore (ls' := [(0, .ref (ad 8 9 0)), (1, .int (ps (pf x) 4)), (2, .int (ps (po x) dd)), (3, .int (ps (pn x) dd)), (4, .int (ps (pl x) dd)), (5, .int 1), (6, .int (nI (dd))), (7, .int (ps (ql x dd) (sd + 1))), (8, .int (nI (sd))), (9, .int 0)]) hc dL_yard_275 (by decide) rfl ?_
                    refine rm_iinc (v := (nI (sd + 1))) (ls' := [(0, .ref (ad 8 9 0)), (1, .int (ps (pf x) 4)), (2, .int (ps (po x) dd)), (3, .int (ps (pn x) dd)), (4, .int (ps (pl x) dd)), (5, .int 1), (6, .int (nI (dd))), (7, .int (ps (ql x dd) (sd + 1))), (8, .int (nI (sd + 1))), (9, .int 0)]) hc dL_yard_277 rfl (nIj (by omega)) (by decide) rfl ?_
                    refine rm_goto (tgt := 151) hc dL_yard_280 (by decide) ?_
                    refine rm_sub [0, 1, 2, 3, 4, 5, 6, 7, 8] rfl ?_
                    exact ihD (sd + 1) (by omega)
                  · --slot
                    refine rm_aload_n hc dL_yard_162 rfl rfl ?_
                    refine rm_iload hc dL_yard_163 rfl ?_
                    refine rm_iload hc dL_yard_165 rfl ?_
                    refine rm_iconst (v := 0) hc dL_yard_167 (by decide) ?_
                    refine rm_calliV (As := [.int (nI (dd)), .int (nI (sd)), .int 0]) (rest := []) hc dL_yard_168 (c_X8_slot hI zm (d := dd) (s0 := sd) (by omega) (by omega) 0 (by decide) (by decide)) mv_L_37 dm_9 rfl rfl (hn := rfl) (hst := rfl) (hw := Nat.le_of_ble_eq_true rfl) (hR := ⟨⟨rfl, rfl⟩, Nat.le_of_ble_eq_true rfl, Nat.le_of_ble_eq_true rfl⟩) (hnc := ⟨Nat.zero_le _, Nat.zero_le _⟩) (fun r_163 y_163 h_163 => ?_)
                    obtain ⟨e_163, ey_163⟩ := h_163
                    obtain rfl := ey_163.symm
                    obtain rfl : r_163 = 1 := e_163.trans ((lkS_e hE).trans u0)
                    refine rm_istore (ls' := [(0, .ref (ad 8 9 0)), (1, .int (ps (pf x) 4)), (2, .int (ps (po x) dd)), (3, .int (ps (pn x) dd)), (4, .int (ps (pl x) dd)), (5, .int 1), (6, .int (nI (dd))), (7, .int (ps (ql x dd) sd)), (8, .int (nI (sd))), (9, .int 1)]) hc dL_yard_171 (by decide) rfl ?_
                    refine rm_iload hc dL_yard_173 rfl ?_
                    refine rm_iload hc dL_yard_175 rfl ?_
                    refine rm_iadd hc dL_yard_177 (fun v_164 e_164 => ?_)
                    obtain rfl : v_164 = (ps (ql x dd) (sd + 1)) := e_164.trans (by show _ = ps (ql x dd) sd + lookSlot x 0 dd sd 0; rw [u0])
                    refine rm_istore (ls' := [(0, .ref (ad 8 9 0)), (1, .int (ps (pf x) 4)), (2, .int (ps (po x) dd)), (3, .int (ps (pn x) dd)), (4, .int (ps (pl x) dd)), (5, .int 1), (6, .int (nI (dd))), (7, .int (ps (ql x dd) (sd + 1))), (8, .int (nI (sd))), (9, .int 1)]) hc dL_yard_178 (by decide) rfl ?_
                    refine rm_iload hc dL_yard_180 rfl ?_
                    refine rm_iconst (v := 1) hc dL_yard_182 (by decide) ?_
                    refine rm_icmp_ne (tgt := 231) hc dL_yard_183 (by decide) (fun h => absurd h (by decide)) (fun _ => ?_)
                    refine rm_aload_n hc dL_yard_186 rfl rfl ?_
                    refine rm_iload hc dL_yard_187 rfl ?_
                    refine rm_iload hc dL_yard_189 rfl ?_
                    refine rm_iconst (v := 1) hc dL_yard_191 (by decide) ?_
                    refine rm_calliV (As := [.int (nI (dd)), .int (nI (sd)), .int 1]) (rest := []) hc dL_yard_192 (c_X8_slot hI zm (d := dd) (s0 := sd) (by omega) (by omega) 1 (by decide) (by decide)) mv_L_37 dm_9 rfl rfl (hn := rfl) (hst := rfl) (hw := Nat.le_of_ble_eq_true rfl) (hR := ⟨⟨rfl, rfl⟩, Nat.le_of_ble_eq_true rfl, Nat.le_of_ble_eq_true rfl⟩) (hnc := ⟨Nat.zero_le _, Nat.zero_le _⟩) (fun r_166 y_166 h_166 => ?_)
                    obtain ⟨e_166, ey_166⟩ := h_166
                    obtain rfl := ey_166.symm
                    obtain rfl : r_166 = (nI (sa)) := e_166.trans ((lkS_e hE).trans u1)
                    refine rm_if_lt (tgt := 227) hc dL_yard_195 (by decide) (fun h => absurd h (fun h2 => absurd ((nI_ltI (a := sa) (b := 0) (by omega) (by omega)).mp h2) (by omega))) (fun _ => ?_)
                    refine rm_aload_n hc dL_yard_198 rfl rfl ?_
                    refine rm_iload hc dL_yard_199 rfl ?_
                    refine rm_iload hc dL_yard_201 rfl ?_
                    refine rm_iconst (v := 2) hc dL_yard_203 (by decide) ?_
                    refine rm_calliV (As := [.int (nI (dd)), .int (nI (sd)), .int 2]) (rest := []) hc dL_yard_204 (c_X8_slot hI zm (d := dd) (s0 := sd) (by omega) (by omega) 2 (by decide) (by decide)) mv_L_37 dm_9 rfl rfl (hn := rfl) (hst := rfl) (hw := Nat.le_of_ble_eq_true rfl) (hR := ⟨⟨rfl, rfl⟩, Nat.le_of_ble_eq_true rfl, Nat.le_of_ble_eq_true rfl⟩) (hnc := ⟨Nat.zero_le _, Nat.zero_le _⟩) (fun r_168 y_168 h_168 => ?_)
                    obtain ⟨e_168, ey_168⟩ := h_168
                    obtain rfl := ey_168.symm
                    obtain rfl : r_168 = (nI (sb)) := e_168.trans ((lkS_e hE).trans u2)
                    refine rm_if_lt (tgt := 227) hc dL_yard_207 (by decide) (fun h => absurd h (fun h2 => absurd ((nI_ltI (a := sb) (b := 0) (by omega) (by omega)).mp h2) (by omega))) (fun _ => ?_)
                    refine rm_aload_n hc dL_yard_210 rfl rfl ?_
                    refine rm_iload hc dL_yard_211 rfl ?_
                    refine rm_iload hc dL_yard_213 rfl ?_
                    refine rm_iconst (v := 3) hc dL_yard_215 (by decide) ?_
                    refine rm_calliV (As := [.int (nI (dd)), .int (nI (sd)), .int 3]) (rest := []) hc dL_yard_216 (c_X8_slot hI zm (d := dd) (s0 := sd) (by omega) (by omega) 3 (by decide) (by decide)) mv_L_37 dm_9 rfl rfl (hn := rfl) (hst := rfl) (hw := Nat.le_of_ble_eq_true rfl) (hR := ⟨⟨rfl, rfl⟩, Nat.le_of_ble_eq_true rfl, Nat.le_of_ble_eq_true rfl⟩) (hnc := ⟨Nat.zero_le _, Nat.zero_le _⟩) (fun r_170 y_170 h_170 => ?_)
                    obtain ⟨e_170, ey_170⟩ := h_170
                    obtain rfl := ey_170.symm
                    obtain rfl : r_170 = (-1) := e_170.trans ((lkS_e hE).trans u3)
                    refine rm_iconst (v := -1) hc dL_yard_219 (by decide) ?_
                    refine rm_icmp_lt (tgt := 227) hc dL_yard_220 (by decide) (fun h => absurd h (by decide)) (fun _ => ?_)
                    refine rm_iconst (v := 1) hc dL_yard_223 (by decide) ?_
                    refine rm_goto (tgt := 275) hc dL_yard_224 (by decide) ?_
                    refine rm_istore (ls' := [(0, .ref (ad 8 9 0)), (1, .int (ps (pf x) 4)), (2, .int (ps (po x) dd)), (3, .int (ps (pn x) dd)), (4, .int (ps (pl x) dd)), (5, .int 1), (6, .int (nI (dd))), (7, .int (ps (ql x dd) (sd + 1))), (8, .int (nI (sd))), (9, .int 1)]) hc dL_yard_275 (by decide) rfl ?_
                    refine rm_iinc (v := (nI (sd + 1))) (ls' := [(0, .ref (ad 8 9 0)), (1, .int (ps (pf x) 4)), (2, .int (ps (po x) dd)), (3, .int (ps (pn x) dd)), (4, .int (ps (pl x) dd)), (5, .int 1), (6, .int (nI (dd))), (7, .int (ps (ql x dd) (sd + 1))), (8, .int (nI (sd + 1))), (9, .int 1)]) hc dL_yard_277 rfl (nIj (by omega)) (by decide) rfl ?_
                    refine rm_goto (tgt := 151) hc dL_yard_280 (by decide) ?_
                    refine rm_sub [0, 1, 2, 3, 4, 5, 6, 7, 8] rfl ?_
                    exact ihD (sd + 1) (by omega)
                  · --slot
                    refine rm_aload_n hc dL_yard_162 rfl rfl ?_
                    refine rm_iload hc dL_yard_163 rfl ?_
                    refine rm_iload hc dL_yard_165 rfl ?_
                    refine rm_iconst (v := 0) hc dL_yard_167 (by decide) ?_
                    refine rm_calliV (As := [.int (nI (dd)), .int (nI (sd)), .int 0]) (rest := []) hc dL_yard_168 (c_X8_slot hI zm (d := dd) (s0 := sd) (by omega) (by omega) 0 (by decide) (by decide)) mv_L_37 dm_9 rfl rfl (hn := rfl) (hst := rfl) (hw := Nat.le_of_ble_eq_true rfl) (hR := ⟨⟨rfl, rfl⟩, Nat.le_of_ble_eq_true rfl, Nat.le_of_ble_eq_true rfl⟩) (hnc := ⟨Nat.zero_le _, Nat.zero_le _⟩) (fun r_172 y_172 h_172 => ?_)
                    obtain ⟨e_172, ey_172⟩ := h_172
                    obtain rfl := ey_172.symm
                    obtain rfl : r_172 = 1 := e_172.trans ((lkS_e hE).trans u0)
                    refine rm_istore (ls' := [(0, .ref (ad 8 9 0)), (1, .int (ps (pf x) 4)), (2, .int (ps (po x) dd)), (3, .int (ps (pn x) dd)), (4, .int (ps (pl x) dd)), (5, .int 1), (6, .int (nI (dd))), (7, .int (ps (ql x dd) sd)), (8, .int (nI (sd))), (9, .int 1)]) hc dL_yard_171 (by decide) rfl ?_
                    refine rm_iload hc dL_yard_173 rfl ?_
                    refine rm_iload hc dL_yard_175 rfl ?_
                    refine rm_iadd hc dL_yard_177 (fun v_173 e_173 => ?_)
                    obtain rfl : v_173 = (ps (ql x dd) (sd + 1)) := e_173.trans (by show _ = ps (ql x dd) sd + lookSlot x 0 dd sd 0; rw [u0])
                    refine rm_istore (ls' := [(0, .ref (ad 8 9 0)), (1, .int (ps (pf x) 4)), (2, .int (ps (po x) dd)), (3, .int (ps (pn x) dd)), (4, .int (ps (pl x) dd)), (5, .int 1), (6, .int (nI (dd))), (7, .int (ps (ql x dd) (sd + 1))), (8, .int (nI (sd))), (9, .int 1)]) hc dL_yard_178 (by decide) rfl ?_
                    refine rm_iload hc dL_yard_180 rfl ?_
                    refine rm_iconst (v := 1) hc dL_yard_182 (by decide) ?_
                    refine rm_icmp_ne (tgt := 231) hc dL_yard_183 (by decide) (fun h => absurd h (by decide)) (fun _ => ?_)
                    refine rm_aload_n hc dL_yard_186 rfl rfl ?_
                    refine rm_iload hc dL_yard_187 rfl ?_
                    refine rm_iload hc dL_yard_189 rfl ?_
                    refine rm_iconst (v := 1) hc dL_yard_191 (by decide) ?_
                    refine rm_calliV (As := [.int (nI (dd)), .int (nI (sd)), .int 1]) (rest := []) hc dL_yard_192 (c_X8_slot hI zm (d := dd) (s0 := sd) (by omega) (by omega) 1 (by decide) (by decide)) mv_L_37 dm_9 rfl rfl (hn := rfl) (hst := rfl) (hw := Nat.le_of_ble_eq_true rfl) (hR := ⟨⟨rfl, rfl⟩, Nat.le_of_ble_eq_true rfl, Nat.le_of_ble_eq_true rfl⟩) (hnc := ⟨Nat.zero_le _, Nat.zero_le _⟩) (fun r_175 y_175 h_175 => ?_)
                    obtain ⟨e_175, ey_175⟩ := h_175
                    obtain rfl := ey_175.symm
                    obtain rfl : r_175 = (nI (sa)) := e_175.trans ((lkS_e hE).trans u1)
                    refine rm_if_lt (tgt := 227) hc dL_yard_195 (by decide) (fun h => absurd h (fun h2 => absurd ((nI_ltI (a := sa) (b := 0) (by omega) (by omega)).mp h2) (by omega))) (fun _ => ?_)
                    refine rm_aload_n hc dL_yard_198 rfl rfl ?_
                    refine rm_iload hc dL_yard_199 rfl ?_
                    refine rm_iload hc dL_yard_201 rfl ?_
                    refine rm_iconst (v := 2) hc dL_yard_203 (by decide) ?_
                    refine rm_calliV (As := [.int (nI (dd)), .int (nI (sd)), .int 2]) (rest := []) hc dL_yard_204 (c_X8_slot hI zm (d := dd) (s0 := sd) (by omega) (by omega) 2 (by decide) (by decide)) mv_L_37 dm_9 rfl rfl (hn := rfl) (hst := rfl) (hw := Nat.le_of_ble_eq_true rfl) (hR := ⟨⟨rfl, rfl⟩, Nat.le_of_ble_eq_true rfl, Nat.le_of_ble_eq_true rfl⟩) (hnc := ⟨Nat.zero_le _, Nat.zero_le _⟩) (fun r_177 y_177 h_177 => ?_)
                    obtain ⟨e_177, ey_177⟩ := h_177
                    obtain rfl := ey_177.symm
                    obtain rfl : r_177 = (nI (sb)) := e_177.trans ((lkS_e hE).trans u2)
                    refine rm_if_lt (tgt := 227) hc dL_yard_207 (by decide) (fun h => absurd h (fun h2 => absurd ((nI_ltI (a := sb) (b := 0) (by omega) (by omega)).mp h2) (by omega))) (fun _ => ?_)
                    refine rm_aload_n hc dL_yard_210 rfl rfl ?_
                    refine rm_iload hc dL_yard_211 rfl ?_
                    refine rm_iload hc dL_yard_213 rfl ?_
                    refine rm_iconst (v := 3) hc dL_yard_215 (by decide) ?_
                    refine rm_calliV (As := [.int (nI (dd)), .int (nI (sd)), .int 3]) (rest := []) hc dL_yard_216 (c_X8_slot hI zm (d := dd) (s0 := sd) (by omega) (by omega) 3 (by decide) (by decide)) mv_L_37 dm_9 rfl rfl (hn := rfl) (hst := rfl) (hw := Nat.le_of_ble_eq_true rfl) (hR := ⟨⟨rfl, rfl⟩, Nat.le_of_ble_eq_true rfl, Nat.le_of_ble_eq_true rfl⟩) (hnc := ⟨Nat.zero_le _, Nat.zero_le _⟩) (fun r_179 y_179 h_179 => ?_)
                    obtain ⟨e_179, ey_179⟩ := h_179
                    obtain rfl := ey_179.symm
                    obtain rfl : r_179 = (nI (sc)) := e_179.trans ((lkS_e hE).trans u3)
                    refine rm_iconst (v := -1) hc dL_yard_219 (by decide) ?_
                    refine rm_icmp_lt (tgt := 227) hc dL_yard_220 (by decide) (fun h => absurd h (fun h8 => absurd (Int32.lt_trans h8 (by decide)) (nn_nI (n := sc) (by omega)))) (fun _ => ?_)
                    refine rm_iconst (v := 1) hc dL_yard_223 (by decide) ?_
                    refine rm_goto (tgt := 275) hc dL_yard_224 (by decide) ?_
                    refine rm_istore (ls' := [(0, .ref (ad 8 9 0)), (1, .int (ps (pf x) 4)), (2, .int (ps (po x) dd)), (3, .int (ps (pn x) dd)), (4, .int (ps (pl x) dd)), (5, .int 1), (6, .int (nI (dd))), (7, .int (ps (ql x dd) (sd + 1))), (8, .int (nI (sd))), (9, .int 1)]) hc dL_yard_275 (by decide) rfl ?_
                    refine rm_iinc (v := (nI (sd + 1))) (ls' := [(0, .ref (ad 8 9 0)), (1, .int (ps (pf x) 4)), (2, .int (ps (po x) dd)), (3, .int (ps (pn x) dd)), (4, .int (ps (pl x) dd)), (5, .int 1), (6, .int (nI (dd))), (7, .int (ps (ql x dd) (sd + 1))), (8, .int (nI (sd + 1))), (9, .int 1)]) hc dL_yard_277 rfl (nIj (by omega)) (by decide) rfl ?_
                    refine rm_goto (tgt := 151) hc dL_yard_280 (by decide) ?_
                    refine rm_sub [0, 1, 2, 3, 4, 5, 6, 7, 8] rfl ?_
                    exact ihD (sd + 1) (by omega)
              refine rm_sub [0, 1, 2, 3, 4, 5, 6, 7, 8] rfl ?_
              exact keyD 4 0 (by omega)
          obtain rfl : kb = 4 := by omega
          exact keyC 3 0 _ (by omega) (E7.rf x)
        | succ fB ihB =>
          intro kb hkb
          refine rm_iload hc dL_yard_109 rfl ?_
          refine rm_iconst (v := 4) hc dL_yard_111 (by decide) ?_
          refine rm_icmp_ge (tgt := 131) hc dL_yard_112 (by decide) (fun h => absurd h (fun h2 => absurd ((nI_leI (a := 4) (b := kb) (by omega) (by omega)).mp h2) (by omega))) (fun _ => ?_)
          refine rm_iload_n hc dL_yard_115 rfl rfl ?_
          refine rm_aload_n hc dL_yard_116 rfl rfl ?_
          refine rm_iload hc dL_yard_117 rfl ?_
          refine rm_iconst (v := 4) hc dL_yard_119 (by decide) ?_
          refine rm_calliV (As := [.int (nI (kb)), .int 4]) (rest := [.int (ps (pf x) kb)]) hc dL_yard_120 (c_X8_fob hI x (j := kb) (by omega) 4 (by decide) (by decide)) mv_L_34 dm_9 rfl rfl (hn := rfl) (hst := rfl) (hw := Nat.le_of_ble_eq_true rfl) (hR := ⟨⟨rfl, rfl⟩, Nat.le_of_ble_eq_true rfl, Nat.le_of_ble_eq_true rfl⟩) (hnc := ⟨Nat.zero_le _, Nat.zero_le _⟩) (fun r_182 y_182 h_182 => ?_)
          obtain ⟨e_182, ey_182⟩ := h_182
          obtain rfl := ey_182.symm
          obtain rfl : r_182 = pf x kb := e_182.trans ((lkF_e (E7.rf x)).trans (lkF_4 x _))
          refine rm_iadd hc dL_yard_123 (fun v_183 e_183 => ?_)
          obtain rfl : v_183 = (ps (pf x) (kb + 1)) := e_183
          refine rm_istore_n (ls' := [(0, .ref (ad 8 9 0)), (1, .int (ps (pf x) (kb + 1))), (2, .int 0), (3, .int 0), (4, .int 0), (5, .int 1), (6, .int (nI (kb)))]) hc dL_yard_124 rfl (by decide) rfl ?_
          refine rm_iinc (v := (nI (kb + 1))) (ls' := [(0, .ref (ad 8 9 0)), (1, .int (ps (pf x) (kb + 1))), (2, .int 0), (3, .int 0), (4, .int 0), (5, .int 1), (6, .int (nI (kb + 1)))]) hc dL_yard_125 rfl (nIj (by omega)) (by decide) rfl ?_
          refine rm_goto (tgt := 109) hc dL_yard_128 (by decide) ?_
          exact ihB (kb + 1) (by omega)
      exact keyB 4 0 (by omega)
    | succ fA ihA =>
      intro ka hka
      refine rm_iload hc dL_yard_57 rfl ?_
      refine rm_aload_n hc dL_yard_59 rfl rfl ?_
      refine rm_bipush (v := 6) hc dL_yard_60 (by decide) ?_
      refine rm_calliV (As := [.int 6]) (rest := [.int (nI (ka))]) hc dL_yard_62 (c_X8_count hI x 6 (by decide) (by decide)) mv_L_26 dm_9 rfl rfl (hn := rfl) (hst := rfl) (hw := Nat.le_of_ble_eq_true rfl) (hR := ⟨⟨rfl, rfl⟩, Nat.le_of_ble_eq_true rfl, Nat.le_of_ble_eq_true rfl⟩) (hnc := ⟨Nat.zero_le _, Nat.zero_le _⟩) (fun r_184 y_184 h_184 => ?_)
      obtain ⟨e_184, ey_184⟩ := h_184
      obtain rfl := ey_184.symm
      obtain rfl : r_184 = nI nr := e_184.trans ((cnt_e (E7.rf x)).trans ((cnt_6 x).trans hnr))
      refine rm_icmp_ge (tgt := 106) hc dL_yard_65 (by decide) (fun h => absurd h (fun h2 => absurd ((nI_leI (a := nr) (b := ka) (by omega) (by omega)).mp h2) (by omega))) (fun _ => ?_)
      refine rm_iload hc dL_yard_68 rfl ?_
      refine rm_if_eq (tgt := 106) hc dL_yard_70 (by decide) (fun h => absurd h (by decide)) (fun _ => ?_)
      obtain ⟨qa, hqa, eqa⟩ := har ka (by omega)
      refine rm_aload_n hc dL_yard_73 rfl rfl ?_
      refine rm_iload hc dL_yard_74 rfl ?_
      refine rm_calliV (As := [.int (nI (ka))]) (rest := []) hc dL_yard_76 (c_X8_air hI x (nI (ka)) (nn_nI (by omega))) mv_L_30 dm_9 rfl rfl (hn := rfl) (hst := rfl) (hw := Nat.le_of_ble_eq_true rfl) (hR := ⟨⟨rfl, rfl⟩, Nat.le_of_ble_eq_true rfl, Nat.le_of_ble_eq_true rfl⟩) (hnc := ⟨Nat.zero_le _, Nat.zero_le _⟩) (fun r_187 y_187 h_187 => ?_)
      obtain ⟨e_187, ey_187⟩ := h_187
      obtain rfl := ey_187.symm
      obtain rfl : r_187 = nI qa := e_187.trans ((E7.rf x).num.trans ((num_n (by omega) hr8 hnr).trans eqa))
      refine rm_if_lt (tgt := 97) hc dL_yard_79 (by decide) (fun h => absurd h (fun h2 => absurd ((nI_ltI (a := qa) (b := 0) (by omega) (by omega)).mp h2) (by omega))) (fun _ => ?_)
      refine rm_aload_n hc dL_yard_82 rfl rfl ?_
      refine rm_iload hc dL_yard_83 rfl ?_
      refine rm_calliV (As := [.int (nI (ka))]) (rest := []) hc dL_yard_85 (c_X8_air hI x (nI (ka)) (nn_nI (by omega))) mv_L_30 dm_9 rfl rfl (hn := rfl) (hst := rfl) (hw := Nat.le_of_ble_eq_true rfl) (hR := ⟨⟨rfl, rfl⟩, Nat.le_of_ble_eq_true rfl, Nat.le_of_ble_eq_true rfl⟩) (hnc := ⟨Nat.zero_le _, Nat.zero_le _⟩) (fun r_189 y_189 h_189 => ?_)
      obtain ⟨e_189, ey_189⟩ := h_189
      obtain rfl := ey_189.symm
      obtain rfl : r_189 = nI qa := e_189.trans ((E7.rf x).num.trans ((num_n (by omega) hr8 hnr).trans eqa))
      refine rm_ldc hc dL_yard_88 kc_L_33 ?_
      refine rm_icmp_gt (tgt := 97) hc dL_yard_90 (by decide) (fun h => absurd h (fun h2 => absurd ((nI_ltI (a := 65535) (b := qa) (by omega) (by omega)).mp h2) (by omega))) (fun _ => ?_)
      refine rm_iconst (v := 1) hc dL_yard_93 (by decide) ?_
      refine rm_goto (tgt := 98) hc dL_yard_94 (by decide) ?_
      refine rm_istore (ls' := [(0, .ref (ad 8 9 0)), (1, .int 0), (2, .int 0), (3, .int 0), (4, .int 0), (5, .int 1), (6, .int (nI (ka)))]) hc dL_yard_98 (by decide) rfl ?_
      refine rm_iinc (v := (nI (ka + 1))) (ls' := [(0, .ref (ad 8 9 0)), (1, .int 0), (2, .int 0), (3, .int 0), (4, .int 0), (5, .int 1), (6, .int (nI (ka + 1)))]) hc dL_yard_100 rfl (nIj (by omega)) (by decide) rfl ?_
      refine rm_goto (tgt := 57) hc dL_yard_103 (by decide) ?_
      exact ihA (ka + 1) (by omega)
  exact keyA nr 0 (by omega)
