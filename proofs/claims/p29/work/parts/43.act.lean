theorem nle_nI {a b : Nat} (h : a ≤ b) (hb : b < 2 ^ 31) : ¬ nI b < nI a := fun q => absurd ((nI_ltI hb (by omega)).mp q) (by omega)
theorem nge_nI {a b : Nat} (h : b ≤ a) (ha : a < 2 ^ 31) : ¬ nI a < nI b := fun q => absurd ((nI_ltI ha (by omega)).mp q) (by omega)
abbrev rm_L_act : Room := { frames := 10, cells := 1, slots := 6, locals := 177 }
set_option maxHeartbeats 4000000 in
set_option maxRecDepth 100000 in
theorem c_L_act {l : Launch} {D : va_G} {cy : Nat → ClassId} {ad : Ads} (hI : IJ ad) (x : Mem) {b L : Nat} {xs : Nat → Int32} (hfl : l.stackTraces = false) {mm nr nq kq B k0 : Nat} (hi : I29 x B) (hc0 : CV (x 0) mm B) (h6 : nq < 6) (hk6 : kq ≤ 6) (hn : NX x B nq kq) (h8 : x 8 1 = nI kq) (hB : 3 * B < 2 ^ 20) (hnr : x 0 5 = nI nr) (hr8 : nr ≤ 8) (hk : k0 + 2 < L) (hL : L < 2 ^ 20) {sv av bv : Int32} (hsv : xs k0 = sv) (hav : xs (k0 + 1) = av) (hbv : xs (k0 + 2) = bv) : Cts l yL_act cL_act 7 (some .int) rm_L_act D cy ad b L xs 1 6 [.ref (ad 8 9 0), .ref b, .int (nI (k0))] x (fun r y => ACT x mm nr (lo sv 20) av bv B r y) := by
  refine rm_entryS hI (by decide) (Nat.le_of_ble_eq_true rfl) ?_
  intro p e s m args below meth c hc hX
  show RM _ _ _ _ _ _ _ _ _ _ _ _ _ _ _ _ _ [(0, .ref (ad 8 9 0)), (1, .ref b), (2, .int (nI (k0)))] []
  refine rm_aload_n hc dL_act_0 rfl rfl ?_
  refine rm_iload_n hc dL_act_1 rfl rfl ?_
  refine rm_iconst (v := 1) hc dL_act_2 (by decide) ?_
  refine rm_iadd hc dL_act_3 (fun v_1 e_1 => ?_)
  obtain rfl : v_1 = (nI (k0 + 1)) := e_1.trans (nadd (m := k0) (n := 1) (by omega))
  clear e_1
  refine rm_callS (As := [.ref b, .int (nI (k0 + 1))]) (rest := []) hc hX dL_act_4 (c_L_cell hI x (i := k0 + 1) (by omega) (by omega)) ms_L_57 (hn := rfl) (hst := rfl) (hw := Nat.le_of_ble_eq_true rfl) (hR := ⟨⟨rfl, rfl⟩, Nat.le_of_ble_eq_true rfl, Nat.le_of_ble_eq_true rfl⟩) (hnc := ⟨by omega, by omega⟩) (fun r_3 y_3 h_3 => ?_)
  obtain ⟨e_3, ey_3⟩ := h_3
  obtain rfl := ey_3.symm
  obtain rfl : av = r_3 := (e_3.trans hav).symm
  refine rm_istore_n (ls' := [(0, .ref (ad 8 9 0)), (1, .ref b), (2, .int (nI (k0))), (3, .int av)]) hc dL_act_7 rfl (by decide) rfl ?_
  refine rm_aload_n hc dL_act_8 rfl rfl ?_
  refine rm_iload_n hc dL_act_9 rfl rfl ?_
  refine rm_iconst (v := 2) hc dL_act_10 (by decide) ?_
  refine rm_iadd hc dL_act_11 (fun v_4 e_4 => ?_)
  obtain rfl : v_4 = (nI (k0 + 2)) := e_4.trans (nadd (m := k0) (n := 2) (by omega))
  clear e_4
  refine rm_callS (As := [.ref b, .int (nI (k0 + 2))]) (rest := []) hc hX dL_act_12 (c_L_cell hI x (i := k0 + 2) (by omega) (by omega)) ms_L_57 (hn := rfl) (hst := rfl) (hw := Nat.le_of_ble_eq_true rfl) (hR := ⟨⟨rfl, rfl⟩, Nat.le_of_ble_eq_true rfl, Nat.le_of_ble_eq_true rfl⟩) (hnc := ⟨by omega, by omega⟩) (fun r_6 y_6 h_6 => ?_)
  obtain ⟨e_6, ey_6⟩ := h_6
  obtain rfl := ey_6.symm
  obtain rfl : bv = r_6 := (e_6.trans hbv).symm
  refine rm_istore (ls' := [(0, .ref (ad 8 9 0)), (1, .ref b), (2, .int (nI (k0))), (3, .int av), (4, .int bv)]) hc dL_act_15 (by decide) rfl ?_
  refine rm_iload_n hc dL_act_17 rfl rfl ?_
  refine rm_iconst (v := 4) hc dL_act_18 (by decide) ?_
  refine rm_calliS (As := [.int av, .int 4]) (rest := []) hc dL_act_19 (c_L_low hI x av (n := 4) (by omega) (by omega)) ms_L_63 (hn := rfl) (hst := rfl) (hw := Nat.le_of_ble_eq_true rfl) (hR := ⟨⟨rfl, rfl⟩, Nat.le_of_ble_eq_true rfl, Nat.le_of_ble_eq_true rfl⟩) (hnc := ⟨Nat.zero_le _, Nat.zero_le _⟩) (fun r_7 y_7 h_7 => ?_)
  obtain ⟨e_7, ey_7⟩ := h_7
  obtain rfl := ey_7.symm
  obtain rfl : r_7 = nI (lo av 4) := e_7
  refine rm_istore (ls' := [(0, .ref (ad 8 9 0)), (1, .ref b), (2, .int (nI (k0))), (3, .int av), (4, .int bv), (5, .int (nI (lo av 4)))]) hc dL_act_22 (by decide) rfl ?_
  refine rm_iload hc dL_act_24 rfl ?_
  refine rm_iconst (v := 3) hc dL_act_26 (by decide) ?_
  refine rm_calliS (As := [.int bv, .int 3]) (rest := []) hc dL_act_27 (c_L_low hI x bv (n := 3) (by omega) (by omega)) ms_L_63 (hn := rfl) (hst := rfl) (hw := Nat.le_of_ble_eq_true rfl) (hR := ⟨⟨rfl, rfl⟩, Nat.le_of_ble_eq_true rfl, Nat.le_of_ble_eq_true rfl⟩) (hnc := ⟨Nat.zero_le _, Nat.zero_le _⟩) (fun r_8 y_8 h_8 => ?_)
  obtain ⟨e_8, ey_8⟩ := h_8
  obtain rfl := ey_8.symm
  obtain rfl : r_8 = nI (lo bv 3) := e_8
  refine rm_istore (ls' := [(0, .ref (ad 8 9 0)), (1, .ref b), (2, .int (nI (k0))), (3, .int av), (4, .int bv), (5, .int (nI (lo av 4))), (6, .int (nI (lo bv 3)))]) hc dL_act_30 (by decide) rfl ?_
  refine rm_aload_n hc dL_act_32 rfl rfl ?_
  refine rm_iload_n hc dL_act_33 rfl rfl ?_
  refine rm_callS (As := [.ref b, .int (nI (k0))]) (rest := []) hc hX dL_act_34 (c_L_cell hI x (i := k0) (by omega) (by omega)) ms_L_57 (hn := rfl) (hst := rfl) (hw := Nat.le_of_ble_eq_true rfl) (hR := ⟨⟨rfl, rfl⟩, Nat.le_of_ble_eq_true rfl, Nat.le_of_ble_eq_true rfl⟩) (hnc := ⟨by omega, by omega⟩) (fun r_10 y_10 h_10 => ?_)
  obtain ⟨e_10, ey_10⟩ := h_10
  obtain rfl := ey_10.symm
  obtain rfl : sv = r_10 := (e_10.trans hsv).symm
  refine rm_bipush (v := 20) hc dL_act_37 (by decide) ?_
  refine rm_calliS (As := [.int sv, .int 20]) (rest := []) hc dL_act_39 (c_L_low hI x sv (n := 20) (by omega) (by omega)) ms_L_63 (hn := rfl) (hst := rfl) (hw := Nat.le_of_ble_eq_true rfl) (hR := ⟨⟨rfl, rfl⟩, Nat.le_of_ble_eq_true rfl, Nat.le_of_ble_eq_true rfl⟩) (hnc := ⟨Nat.zero_le _, Nat.zero_le _⟩) (fun r_11 y_11 h_11 => ?_)
  obtain ⟨e_11, ey_11⟩ := h_11
  obtain rfl := ey_11.symm
  obtain rfl : r_11 = nI (lo sv 20) := e_11
  have hq20 : lo sv 20 < 20 := lo_lt (by omega)
  have hF := hi.flg 0 (by omega)
  rcases (show lo sv 20 = 0 ∨ lo sv 20 = 1 ∨ lo sv 20 = 2 ∨ lo sv 20 = 3 ∨ lo sv 20 = 4 ∨ lo sv 20 = 5 ∨ lo sv 20 = 6 ∨ lo sv 20 = 7 ∨ lo sv 20 = 8 ∨ lo sv 20 = 9 ∨ lo sv 20 = 10 ∨ lo sv 20 = 11 ∨ lo sv 20 = 12 ∨ lo sv 20 = 13 ∨ lo sv 20 = 14 ∨ lo sv 20 = 15 ∨ lo sv 20 = 16 ∨ lo sv 20 = 17 ∨ lo sv 20 = 18 ∨ lo sv 20 = 19 by omega) with eq | eq | eq | eq | eq | eq | eq | eq | eq | eq | eq | eq | eq | eq | eq | eq | eq | eq | eq | eq
  · --sort 0
    rw [show nI (lo sv 20) = 0 from congrArg nI eq]
    refine rm_tin (off := 90) (tgt := 132) hc dL_act_42 (by decide) (by decide) (by decide) (by decide) ?_
    refine rm_aload_n hc dL_act_132 rfl rfl ?_
    refine rm_iload hc dL_act_133 rfl ?_
    refine rm_iload hc dL_act_135 rfl ?_
    refine rm_iconst (v := 2) hc dL_act_137 (by decide) ?_
    refine rm_ishr hc dL_act_138 (fun v_12 e_12 => ?_)
    refine rm_iconst (v := 4) hc dL_act_139 (by decide) ?_
    refine rm_calliS (As := [.int v_12, .int 4]) (rest := [.int (nI (lo bv 3)), .ref (ad 8 9 0)]) hc dL_act_140 (c_L_low hI x v_12 (n := 4) (by omega) (by omega)) ms_L_63 (hn := rfl) (hst := rfl) (hw := Nat.le_of_ble_eq_true rfl) (hR := ⟨⟨rfl, rfl⟩, Nat.le_of_ble_eq_true rfl, Nat.le_of_ble_eq_true rfl⟩) (hnc := ⟨Nat.zero_le _, Nat.zero_le _⟩) (fun r_13 y_13 h_13 => ?_)
    obtain ⟨e_13, ey_13⟩ := h_13
    obtain rfl := ey_13.symm
    obtain rfl : r_13 = nI (lo v_12 4) := e_13
    refine rm_iload hc dL_act_143 rfl ?_
    refine rm_calliV (As := [.int (nI (lo bv 3)), .int (nI (lo v_12 4)), .int (nI (lo av 4))]) (rest := []) hc dL_act_145 (c_X8_learn hI x (d := lo bv 3) (s0 := lo v_12 4) (j := lo av 4) (lo_lt (by omega)) (lo_lt (by omega)) (lo_lt (by omega)) h6 ((hn.nxt hB).lo (Nat.zero_le _)) hF) mv_L_66 dm_9 rfl rfl (hn := rfl) (hst := rfl) (hw := Nat.le_of_ble_eq_true rfl) (hR := ⟨⟨rfl, rfl⟩, Nat.le_of_ble_eq_true rfl, Nat.le_of_ble_eq_true rfl⟩) (hnc := ⟨Nat.zero_le _, Nat.zero_le _⟩) (fun r_14 y_14 h_14 => ?_)
    exact rm_iretS hc dL_act_148 (by decide) (by decide) (a_learn hi hc0 h6 hk6 hn h8 (lo_lt (by omega)) (lo_lt (by omega)) (lo_lt (by omega)) (by omega) h_14)
  · --sort 1
    rw [show nI (lo sv 20) = 1 from congrArg nI eq]
    refine rm_tin (off := 90) (tgt := 132) hc dL_act_42 (by decide) (by decide) (by decide) (by decide) ?_
    refine rm_aload_n hc dL_act_132 rfl rfl ?_
    refine rm_iload hc dL_act_133 rfl ?_
    refine rm_iload hc dL_act_135 rfl ?_
    refine rm_iconst (v := 2) hc dL_act_137 (by decide) ?_
    refine rm_ishr hc dL_act_138 (fun v_15 e_15 => ?_)
    refine rm_iconst (v := 4) hc dL_act_139 (by decide) ?_
    refine rm_calliS (As := [.int v_15, .int 4]) (rest := [.int (nI (lo bv 3)), .ref (ad 8 9 0)]) hc dL_act_140 (c_L_low hI x v_15 (n := 4) (by omega) (by omega)) ms_L_63 (hn := rfl) (hst := rfl) (hw := Nat.le_of_ble_eq_true rfl) (hR := ⟨⟨rfl, rfl⟩, Nat.le_of_ble_eq_true rfl, Nat.le_of_ble_eq_true rfl⟩) (hnc := ⟨Nat.zero_le _, Nat.zero_le _⟩) (fun r_16 y_16 h_16 => ?_)
    obtain ⟨e_16, ey_16⟩ := h_16
    obtain rfl := ey_16.symm
    obtain rfl : r_16 = nI (lo v_15 4) := e_16
    refine rm_iload hc dL_act_143 rfl ?_
    refine rm_calliV (As := [.int (nI (lo bv 3)), .int (nI (lo v_15 4)), .int (nI (lo av 4))]) (rest := []) hc dL_act_145 (c_X8_learn hI x (d := lo bv 3) (s0 := lo v_15 4) (j := lo av 4) (lo_lt (by omega)) (lo_lt (by omega)) (lo_lt (by omega)) h6 ((hn.nxt hB).lo (Nat.zero_le _)) hF) mv_L_66 dm_9 rfl rfl (hn := rfl) (hst := rfl) (hw := Nat.le_of_ble_eq_true rfl) (hR := ⟨⟨rfl, rfl⟩, Nat.le_of_ble_eq_true rfl, Nat.le_of_ble_eq_true rfl⟩) (hnc := ⟨Nat.zero_le _, Nat.zero_le _⟩) (fun r_17 y_17 h_17 => ?_)
    exact rm_iretS hc dL_act_148 (by decide) (by decide) (a_learn hi hc0 h6 hk6 hn h8 (lo_lt (by omega)) (lo_lt (by omega)) (lo_lt (by omega)) (by omega) h_17)
  · --sort 2
    rw [show nI (lo sv 20) = 2 from congrArg nI eq]
    refine rm_tin (off := 90) (tgt := 132) hc dL_act_42 (by decide) (by decide) (by decide) (by decide) ?_
    refine rm_aload_n hc dL_act_132 rfl rfl ?_
    refine rm_iload hc dL_act_133 rfl ?_
    refine rm_iload hc dL_act_135 rfl ?_
    refine rm_iconst (v := 2) hc dL_act_137 (by decide) ?_
    refine rm_ishr hc dL_act_138 (fun v_18 e_18 => ?_)
    refine rm_iconst (v := 4) hc dL_act_139 (by decide) ?_
    refine rm_calliS (As := [.int v_18, .int 4]) (rest := [.int (nI (lo bv 3)), .ref (ad 8 9 0)]) hc dL_act_140 (c_L_low hI x v_18 (n := 4) (by omega) (by omega)) ms_L_63 (hn := rfl) (hst := rfl) (hw := Nat.le_of_ble_eq_true rfl) (hR := ⟨⟨rfl, rfl⟩, Nat.le_of_ble_eq_true rfl, Nat.le_of_ble_eq_true rfl⟩) (hnc := ⟨Nat.zero_le _, Nat.zero_le _⟩) (fun r_19 y_19 h_19 => ?_)
    obtain ⟨e_19, ey_19⟩ := h_19
    obtain rfl := ey_19.symm
    obtain rfl : r_19 = nI (lo v_18 4) := e_19
    refine rm_iload hc dL_act_143 rfl ?_
    refine rm_calliV (As := [.int (nI (lo bv 3)), .int (nI (lo v_18 4)), .int (nI (lo av 4))]) (rest := []) hc dL_act_145 (c_X8_learn hI x (d := lo bv 3) (s0 := lo v_18 4) (j := lo av 4) (lo_lt (by omega)) (lo_lt (by omega)) (lo_lt (by omega)) h6 ((hn.nxt hB).lo (Nat.zero_le _)) hF) mv_L_66 dm_9 rfl rfl (hn := rfl) (hst := rfl) (hw := Nat.le_of_ble_eq_true rfl) (hR := ⟨⟨rfl, rfl⟩, Nat.le_of_ble_eq_true rfl, Nat.le_of_ble_eq_true rfl⟩) (hnc := ⟨Nat.zero_le _, Nat.zero_le _⟩) (fun r_20 y_20 h_20 => ?_)
    exact rm_iretS hc dL_act_148 (by decide) (by decide) (a_learn hi hc0 h6 hk6 hn h8 (lo_lt (by omega)) (lo_lt (by omega)) (lo_lt (by omega)) (by omega) h_20)
  · --sort 3
    rw [show nI (lo sv 20) = 3 from congrArg nI eq]
    refine rm_tin (off := 90) (tgt := 132) hc dL_act_42 (by decide) (by decide) (by decide) (by decide) ?_
    refine rm_aload_n hc dL_act_132 rfl rfl ?_
    refine rm_iload hc dL_act_133 rfl ?_
    refine rm_iload hc dL_act_135 rfl ?_
    refine rm_iconst (v := 2) hc dL_act_137 (by decide) ?_
    refine rm_ishr hc dL_act_138 (fun v_21 e_21 => ?_)
    refine rm_iconst (v := 4) hc dL_act_139 (by decide) ?_
    refine rm_calliS (As := [.int v_21, .int 4]) (rest := [.int (nI (lo bv 3)), .ref (ad 8 9 0)]) hc dL_act_140 (c_L_low hI x v_21 (n := 4) (by omega) (by omega)) ms_L_63 (hn := rfl) (hst := rfl) (hw := Nat.le_of_ble_eq_true rfl) (hR := ⟨⟨rfl, rfl⟩, Nat.le_of_ble_eq_true rfl, Nat.le_of_ble_eq_true rfl⟩) (hnc := ⟨Nat.zero_le _, Nat.zero_le _⟩) (fun r_22 y_22 h_22 => ?_)
    obtain ⟨e_22, ey_22⟩ := h_22
    obtain rfl := ey_22.symm
    obtain rfl : r_22 = nI (lo v_21 4) := e_22
    refine rm_iload hc dL_act_143 rfl ?_
    refine rm_calliV (As := [.int (nI (lo bv 3)), .int (nI (lo v_21 4)), .int (nI (lo av 4))]) (rest := []) hc dL_act_145 (c_X8_learn hI x (d := lo bv 3) (s0 := lo v_21 4) (j := lo av 4) (lo_lt (by omega)) (lo_lt (by omega)) (lo_lt (by omega)) h6 ((hn.nxt hB).lo (Nat.zero_le _)) hF) mv_L_66 dm_9 rfl rfl (hn := rfl) (hst := rfl) (hw := Nat.le_of_ble_eq_true rfl) (hR := ⟨⟨rfl, rfl⟩, Nat.le_of_ble_eq_true rfl, Nat.le_of_ble_eq_true rfl⟩) (hnc := ⟨Nat.zero_le _, Nat.zero_le _⟩) (fun r_23 y_23 h_23 => ?_)
    exact rm_iretS hc dL_act_148 (by decide) (by decide) (a_learn hi hc0 h6 hk6 hn h8 (lo_lt (by omega)) (lo_lt (by omega)) (lo_lt (by omega)) (by omega) h_23)
  · --sort 4
    rw [show nI (lo sv 20) = 4 from congrArg nI eq]
    refine rm_tin (off := 107) (tgt := 149) hc dL_act_42 (by decide) (by decide) (by decide) (by decide) ?_
    refine rm_aload_n hc dL_act_149 rfl rfl ?_
    refine rm_iload hc dL_act_150 rfl ?_
    refine rm_iload hc dL_act_152 rfl ?_
    refine rm_iconst (v := 2) hc dL_act_154 (by decide) ?_
    refine rm_ishr hc dL_act_155 (fun v_24 e_24 => ?_)
    refine rm_iconst (v := 4) hc dL_act_156 (by decide) ?_
    refine rm_calliS (As := [.int v_24, .int 4]) (rest := [.int (nI (lo bv 3)), .ref (ad 8 9 0)]) hc dL_act_157 (c_L_low hI x v_24 (n := 4) (by omega) (by omega)) ms_L_63 (hn := rfl) (hst := rfl) (hw := Nat.le_of_ble_eq_true rfl) (hR := ⟨⟨rfl, rfl⟩, Nat.le_of_ble_eq_true rfl, Nat.le_of_ble_eq_true rfl⟩) (hnc := ⟨Nat.zero_le _, Nat.zero_le _⟩) (fun r_25 y_25 h_25 => ?_)
    obtain ⟨e_25, ey_25⟩ := h_25
    obtain rfl := ey_25.symm
    obtain rfl : r_25 = nI (lo v_24 4) := e_25
    refine rm_calliV (As := [.int (nI (lo bv 3)), .int (nI (lo v_24 4))]) (rest := []) hc dL_act_160 (c_X8_forget hI x (d := lo bv 3) (s0 := lo v_24 4) (lo_lt (by omega)) (lo_lt (by omega)) h6 ((hn.nxt hB).lo (Nat.zero_le _)) hF) mv_L_69 dm_9 rfl rfl (hn := rfl) (hst := rfl) (hw := Nat.le_of_ble_eq_true rfl) (hR := ⟨⟨rfl, rfl⟩, Nat.le_of_ble_eq_true rfl, Nat.le_of_ble_eq_true rfl⟩) (hnc := ⟨Nat.zero_le _, Nat.zero_le _⟩) (fun r_26 y_26 h_26 => ?_)
    exact rm_iretS hc dL_act_163 (by decide) (by decide) (a_forget hi hc0 h6 hk6 hn h8 (lo_lt (by omega)) (lo_lt (by omega)) (by omega) h_26)
  · --sort 5
    rw [show nI (lo sv 20) = 5 from congrArg nI eq]
    refine rm_tin (off := 122) (tgt := 164) hc dL_act_42 (by decide) (by decide) (by decide) (by decide) ?_
    refine rm_aload_n hc dL_act_164 rfl rfl ?_
    refine rm_iload hc dL_act_165 rfl ?_
    refine rm_calliV (As := [.int (nI (lo bv 3))]) (rest := []) hc dL_act_167 (c_X8_shut hI x (d := lo bv 3) (lo_lt (by omega)) h6 ((hn.nxt hB).lo (Nat.zero_le _)) hF) mv_L_72 dm_9 rfl rfl (hn := rfl) (hst := rfl) (hw := Nat.le_of_ble_eq_true rfl) (hR := ⟨⟨rfl, rfl⟩, Nat.le_of_ble_eq_true rfl, Nat.le_of_ble_eq_true rfl⟩) (hnc := ⟨Nat.zero_le _, Nat.zero_le _⟩) (fun r_27 y_27 h_27 => ?_)
    exact rm_iretS hc dL_act_170 (by decide) (by decide) (a_shut hi hc0 h6 hk6 hn h8 (lo_lt (by omega)) (by omega) h_27)
  · --sort 6
    rw [show nI (lo sv 20) = 6 from congrArg nI eq]
    refine rm_tin (off := 129) (tgt := 171) hc dL_act_42 (by decide) (by decide) (by decide) (by decide) ?_
    refine rm_aload_n hc dL_act_171 rfl rfl ?_
    refine rm_iload hc dL_act_172 rfl ?_
    refine rm_calliV (As := [.int (nI (lo bv 3))]) (rest := []) hc dL_act_174 (c_X8_unlock hI x (d := lo bv 3) (lo_lt (by omega)) h6 ((hn.nxt hB).lo (Nat.zero_le _)) hF) mv_L_75 dm_9 rfl rfl (hn := rfl) (hst := rfl) (hw := Nat.le_of_ble_eq_true rfl) (hR := ⟨⟨rfl, rfl⟩, Nat.le_of_ble_eq_true rfl, Nat.le_of_ble_eq_true rfl⟩) (hnc := ⟨Nat.zero_le _, Nat.zero_le _⟩) (fun r_28 y_28 h_28 => ?_)
    exact rm_iretS hc dL_act_177 (by decide) (by decide) (a_unlock hi hc0 h6 hk6 hn h8 (by omega) (by omega) h_28)
  · --sort 7
    rw [show nI (lo sv 20) = 7 from congrArg nI eq]
    refine rm_tin (off := 136) (tgt := 178) hc dL_act_42 (by decide) (by decide) (by decide) (by decide) ?_
    refine rm_aload_n hc dL_act_178 rfl rfl ?_
    refine rm_iload hc dL_act_179 rfl ?_
    refine rm_iload hc dL_act_181 rfl ?_
    refine rm_sipush (v := 10000) hc dL_act_183 (by decide) ?_
    refine rm_calliS (As := [.int bv, .int 10000]) (rest := [.int (nI (lo av 4)), .ref (ad 8 9 0)]) hc dL_act_186 (c_L_low hI x bv (n := 10000) (by omega) (by omega)) ms_L_63 (hn := rfl) (hst := rfl) (hw := Nat.le_of_ble_eq_true rfl) (hR := ⟨⟨rfl, rfl⟩, Nat.le_of_ble_eq_true rfl, Nat.le_of_ble_eq_true rfl⟩) (hnc := ⟨Nat.zero_le _, Nat.zero_le _⟩) (fun r_29 y_29 h_29 => ?_)
    obtain ⟨e_29, ey_29⟩ := h_29
    obtain rfl := ey_29.symm
    obtain rfl : r_29 = nI (lo bv 10000) := e_29
    refine rm_iload_n hc dL_act_189 rfl rfl ?_
    refine rm_iconst (v := 2) hc dL_act_190 (by decide) ?_
    refine rm_ishr hc dL_act_191 (fun v_30 e_30 => ?_)
    refine rm_sipush (v := 10000) hc dL_act_192 (by decide) ?_
    refine rm_calliS (As := [.int v_30, .int 10000]) (rest := [.int (nI (lo bv 10000)), .int (nI (lo av 4)), .ref (ad 8 9 0)]) hc dL_act_195 (c_L_low hI x v_30 (n := 10000) (by omega) (by omega)) ms_L_63 (hn := rfl) (hst := rfl) (hw := Nat.le_of_ble_eq_true rfl) (hR := ⟨⟨rfl, rfl⟩, Nat.le_of_ble_eq_true rfl, Nat.le_of_ble_eq_true rfl⟩) (hnc := ⟨Nat.zero_le _, Nat.zero_le _⟩) (fun r_31 y_31 h_31 => ?_)
    obtain ⟨e_31, ey_31⟩ := h_31
    obtain rfl := ey_31.symm
    obtain rfl : r_31 = nI (lo v_30 10000) := e_31
    refine rm_calliV (As := [.int (nI (lo av 4)), .int (nI (lo bv 10000)), .int (nI (lo v_30 10000))]) (rest := []) hc dL_act_198 (c_X8_make hI x (j := lo av 4) (lo_lt (by omega)) (nI (lo bv 10000)) (nI (lo v_30 10000)) (nn_nI (by have h9 := lo_lt (a := bv) (n := 10000) (by omega); omega)) (nle_nI (a := lo bv 10000) (b := 9999) (by have h9 := lo_lt (a := bv) (n := 10000) (by omega); omega) (by omega)) (nn_nI (by have h9 := lo_lt (a := v_30) (n := 10000) (by omega); omega)) (nle_nI (a := lo v_30 10000) (b := 9999) (by have h9 := lo_lt (a := v_30) (n := 10000) (by omega); omega) (by omega)) h6 ((hn.nxt hB).lo (Nat.zero_le _)) hF) mv_L_78 dm_9 rfl rfl (hn := rfl) (hst := rfl) (hw := Nat.le_of_ble_eq_true rfl) (hR := ⟨⟨rfl, rfl⟩, Nat.le_of_ble_eq_true rfl, Nat.le_of_ble_eq_true rfl⟩) (hnc := ⟨Nat.zero_le _, Nat.zero_le _⟩) (fun r_32 y_32 h_32 => ?_)
    exact rm_iretS hc dL_act_201 (by decide) (by decide) (a_make hi hc0 h6 hk6 hn h8 (lo_lt (by omega)) (lo_lt (by omega)) (lo_lt (by omega)) (by omega) h_32)
  · --sort 8
    rw [show nI (lo sv 20) = 8 from congrArg nI eq]
    refine rm_tin (off := 160) (tgt := 202) hc dL_act_42 (by decide) (by decide) (by decide) (by decide) ?_
    refine rm_aload_n hc dL_act_202 rfl rfl ?_
    refine rm_iload hc dL_act_203 rfl ?_
    refine rm_iload hc dL_act_205 rfl ?_
    refine rm_bipush (v := 30) hc dL_act_207 (by decide) ?_
    refine rm_calliS (As := [.int bv, .int 30]) (rest := [.int (nI (lo av 4)), .ref (ad 8 9 0)]) hc dL_act_209 (c_L_low hI x bv (n := 30) (by omega) (by omega)) ms_L_63 (hn := rfl) (hst := rfl) (hw := Nat.le_of_ble_eq_true rfl) (hR := ⟨⟨rfl, rfl⟩, Nat.le_of_ble_eq_true rfl, Nat.le_of_ble_eq_true rfl⟩) (hnc := ⟨Nat.zero_le _, Nat.zero_le _⟩) (fun r_33 y_33 h_33 => ?_)
    obtain ⟨e_33, ey_33⟩ := h_33
    obtain rfl := ey_33.symm
    obtain rfl : r_33 = nI (lo bv 30) := e_33
    refine rm_calliV (As := [.int (nI (lo av 4)), .int (nI (lo bv 30))]) (rest := []) hc dL_act_212 (c_X8_battery hI x (j := lo av 4) (lo_lt (by omega)) (nI (lo bv 30)) (nn_nI (by have h9 := lo_lt (a := bv) (n := 30) (by omega); omega)) (nle_nI (a := lo bv 30) (b := 999) (by have h9 := lo_lt (a := bv) (n := 30) (by omega); omega) (by omega)) h6 ((hn.nxt hB).lo (Nat.zero_le _)) hF) mv_L_81 dm_9 rfl rfl (hn := rfl) (hst := rfl) (hw := Nat.le_of_ble_eq_true rfl) (hR := ⟨⟨rfl, rfl⟩, Nat.le_of_ble_eq_true rfl, Nat.le_of_ble_eq_true rfl⟩) (hnc := ⟨Nat.zero_le _, Nat.zero_le _⟩) (fun r_34 y_34 h_34 => ?_)
    exact rm_iretS hc dL_act_215 (by decide) (by decide) (a_battery hi hc0 h6 hk6 hn h8 (lo_lt (by omega)) (by have h9 := lo_lt (a := bv) (n := 30) (by omega); omega) (by omega) h_34)
  · --sort 9
    rw [show nI (lo sv 20) = 9 from congrArg nI eq]
    refine rm_tin (off := 174) (tgt := 216) hc dL_act_42 (by decide) (by decide) (by decide) (by decide) ?_
    refine rm_aload_n hc dL_act_216 rfl rfl ?_
    refine rm_iconst (v := 0) hc dL_act_217 (by decide) ?_
    refine rm_iconst (v := 1) hc dL_act_218 (by decide) ?_
    refine rm_iload hc dL_act_219 rfl ?_
    refine rm_bipush (v := 64) hc dL_act_221 (by decide) ?_
    refine rm_calliS (As := [.int bv, .int 64]) (rest := [.int 1, .int 0, .ref (ad 8 9 0)]) hc dL_act_223 (c_L_low hI x bv (n := 64) (by omega) (by omega)) ms_L_63 (hn := rfl) (hst := rfl) (hw := Nat.le_of_ble_eq_true rfl) (hR := ⟨⟨rfl, rfl⟩, Nat.le_of_ble_eq_true rfl, Nat.le_of_ble_eq_true rfl⟩) (hnc := ⟨Nat.zero_le _, Nat.zero_le _⟩) (fun r_35 y_35 h_35 => ?_)
    obtain ⟨e_35, ey_35⟩ := h_35
    obtain rfl := ey_35.symm
    obtain rfl : r_35 = nI (lo bv 64) := e_35
    refine rm_iadd hc dL_act_226 (fun v_36 e_36 => ?_)
    obtain rfl : v_36 = (nI (lo bv 64 + 1)) := e_36.trans (nadd (m := 1) (n := lo bv 64) (by omega))
    clear e_36
    refine rm_calliV (As := [.int 0, .int (nI (lo bv 64 + 1))]) (rest := []) hc dL_act_227 (c_X8_set hI x 0 (nI (lo bv 64 + 1)) 1 64 (by decide) (by decide) (by decide) (by decide) (nge_nI (a := lo bv 64 + 1) (b := 1) (by have h9 := lo_lt (a := bv) (n := 64) (by omega); omega) (by have h9 := lo_lt (a := bv) (n := 64) (by omega); omega)) (nle_nI (a := lo bv 64 + 1) (b := 64) (by have h9 := lo_lt (a := bv) (n := 64) (by omega); omega) (by omega)) h6 ((hn.nxt hB).lo (Nat.zero_le _)) hF) mv_L_84 dm_9 rfl rfl (hn := rfl) (hst := rfl) (hw := Nat.le_of_ble_eq_true rfl) (hR := ⟨⟨rfl, rfl⟩, Nat.le_of_ble_eq_true rfl, Nat.le_of_ble_eq_true rfl⟩) (hnc := ⟨Nat.zero_le _, Nat.zero_le _⟩) (fun r_37 y_37 h_37 => ?_)
    exact rm_iretS hc dL_act_230 (by decide) (by decide) (a_set (n := 0) (u := lo bv 64 + 1) hi hc0 h6 hk6 hn h8 (by have h9 := lo_lt (a := bv) (n := 64) (by omega); omega) (by omega) h_37)
  · --sort 10
    rw [show nI (lo sv 20) = 10 from congrArg nI eq]
    refine rm_tin (off := 189) (tgt := 231) hc dL_act_42 (by decide) (by decide) (by decide) (by decide) ?_
    refine rm_iload_n hc dL_act_231 rfl rfl ?_
    refine rm_iconst (v := 2) hc dL_act_232 (by decide) ?_
    refine rm_calliS (As := [.int av, .int 2]) (rest := []) hc dL_act_233 (c_L_low hI x av (n := 2) (by omega) (by omega)) ms_L_63 (hn := rfl) (hst := rfl) (hw := Nat.le_of_ble_eq_true rfl) (hR := ⟨⟨rfl, rfl⟩, Nat.le_of_ble_eq_true rfl, Nat.le_of_ble_eq_true rfl⟩) (hnc := ⟨Nat.zero_le _, Nat.zero_le _⟩) (fun r_38 y_38 h_38 => ?_)
    obtain ⟨e_38, ey_38⟩ := h_38
    obtain rfl := ey_38.symm
    obtain rfl : r_38 = nI (lo av 2) := e_38
    have hlo2 := lo_lt (a := av) (n := 2) (by omega)
    rcases Nat.eq_zero_or_pos (lo av 2) with z9 | z9
    · --
      refine rm_if_ne (tgt := 257) hc dL_act_236 (by decide) (fun h => absurd ((nI_eq (a := lo av 2) (b := 0) (by omega) (by omega)).mpr (by omega)) h) (fun _ => ?_)
      refine rm_aload_n hc dL_act_239 rfl rfl ?_
      refine rm_iconst (v := 1) hc dL_act_240 (by decide) ?_
      refine rm_iconst (v := 1) hc dL_act_241 (by decide) ?_
      refine rm_iload hc dL_act_242 rfl ?_
      refine rm_sipush (v := 500) hc dL_act_244 (by decide) ?_
      refine rm_calliS (As := [.int bv, .int 500]) (rest := [.int 1, .int 1, .ref (ad 8 9 0)]) hc dL_act_247 (c_L_low hI x bv (n := 500) (by omega) (by omega)) ms_L_63 (hn := rfl) (hst := rfl) (hw := Nat.le_of_ble_eq_true rfl) (hR := ⟨⟨rfl, rfl⟩, Nat.le_of_ble_eq_true rfl, Nat.le_of_ble_eq_true rfl⟩) (hnc := ⟨Nat.zero_le _, Nat.zero_le _⟩) (fun r_40 y_40 h_40 => ?_)
      obtain ⟨e_40, ey_40⟩ := h_40
      obtain rfl := ey_40.symm
      obtain rfl : r_40 = nI (lo bv 500) := e_40
      refine rm_iadd hc dL_act_250 (fun v_41 e_41 => ?_)
      obtain rfl : v_41 = (nI (lo bv 500 + 1)) := e_41.trans (nadd (m := 1) (n := lo bv 500) (by omega))
      clear e_41
      refine rm_calliV (As := [.int 1, .int (nI (lo bv 500 + 1))]) (rest := []) hc dL_act_251 (c_X8_set hI x 1 (nI (lo bv 500 + 1)) 1 500 (by decide) (by decide) (by decide) (by decide) (nge_nI (a := lo bv 500 + 1) (b := 1) (by have h9 := lo_lt (a := bv) (n := 500) (by omega); omega) (by have h9 := lo_lt (a := bv) (n := 500) (by omega); omega)) (nle_nI (a := lo bv 500 + 1) (b := 500) (by have h9 := lo_lt (a := bv) (n := 500) (by omega); omega) (by omega)) h6 ((hn.nxt hB).lo (Nat.zero_le _)) hF) mv_L_84 dm_9 rfl rfl (hn := rfl) (hst := rfl) (hw := Nat.le_of_ble_eq_true rfl) (hR := ⟨⟨rfl, rfl⟩, Nat.le_of_ble_eq_true rfl, Nat.le_of_ble_eq_true rfl⟩) (hnc := ⟨Nat.zero_le _, Nat.zero_le _⟩) (fun r_42 y_42 h_42 => ?_)
      refine rm_goto (tgt := 269) hc dL_act_254 (by decide) ?_
      exact rm_iretS hc dL_act_269 (by decide) (by decide) (a_set (n := 1) (u := lo bv 500 + 1) hi hc0 h6 hk6 hn h8 (by have h9 := lo_lt (a := bv) (n := 500) (by omega); omega) (by omega) h_42)
    · --
      refine rm_if_ne (tgt := 257) hc dL_act_236 (by decide) (fun _ => ?_) (fun h => absurd h (fun h2 => absurd ((nI_eq (a := lo av 2) (b := 0) (by omega) (by omega)).mp h2) (by omega)))
      refine rm_aload_n hc dL_act_257 rfl rfl ?_
      refine rm_iconst (v := 2) hc dL_act_258 (by decide) ?_
      refine rm_iload hc dL_act_259 rfl ?_
      refine rm_bipush (v := 21) hc dL_act_261 (by decide) ?_
      refine rm_calliS (As := [.int bv, .int 21]) (rest := [.int 2, .ref (ad 8 9 0)]) hc dL_act_263 (c_L_low hI x bv (n := 21) (by omega) (by omega)) ms_L_63 (hn := rfl) (hst := rfl) (hw := Nat.le_of_ble_eq_true rfl) (hR := ⟨⟨rfl, rfl⟩, Nat.le_of_ble_eq_true rfl, Nat.le_of_ble_eq_true rfl⟩) (hnc := ⟨Nat.zero_le _, Nat.zero_le _⟩) (fun r_43 y_43 h_43 => ?_)
      obtain ⟨e_43, ey_43⟩ := h_43
      obtain rfl := ey_43.symm
      obtain rfl : r_43 = nI (lo bv 21) := e_43
      refine rm_calliV (As := [.int 2, .int (nI (lo bv 21))]) (rest := []) hc dL_act_266 (c_X8_set hI x 2 (nI (lo bv 21)) 0 20 (by decide) (by decide) (by decide) (by decide) (nge_nI (a := lo bv 21) (b := 0) (by have h9 := lo_lt (a := bv) (n := 21) (by omega); omega) (by have h9 := lo_lt (a := bv) (n := 21) (by omega); omega)) (nle_nI (a := lo bv 21) (b := 20) (by have h9 := lo_lt (a := bv) (n := 21) (by omega); omega) (by omega)) h6 ((hn.nxt hB).lo (Nat.zero_le _)) hF) mv_L_84 dm_9 rfl rfl (hn := rfl) (hst := rfl) (hw := Nat.le_of_ble_eq_true rfl) (hR := ⟨⟨rfl, rfl⟩, Nat.le_of_ble_eq_true rfl, Nat.le_of_ble_eq_true rfl⟩) (hnc := ⟨Nat.zero_le _, Nat.zero_le _⟩) (fun r_44 y_44 h_44 => ?_)
      exact rm_iretS hc dL_act_269 (by decide) (by decide) (a_set (n := 2) (u := lo bv 21) hi hc0 h6 hk6 hn h8 (by have h9 := lo_lt (a := bv) (n := 21) (by omega); omega) (by omega) h_44)
  · --sort 11
    rw [show nI (lo sv 20) = 11 from congrArg nI eq]
    refine rm_tin (off := 228) (tgt := 270) hc dL_act_42 (by decide) (by decide) (by decide) (by decide) ?_
    refine rm_aload_n hc dL_act_270 rfl rfl ?_
    refine rm_iload hc dL_act_271 rfl ?_
    refine rm_iload hc dL_act_273 rfl ?_
    refine rm_bipush (v := 8) hc dL_act_275 (by decide) ?_
    refine rm_calliS (As := [.int bv, .int 8]) (rest := [.int (nI (lo av 4)), .ref (ad 8 9 0)]) hc dL_act_277 (c_L_low hI x bv (n := 8) (by omega) (by omega)) ms_L_63 (hn := rfl) (hst := rfl) (hw := Nat.le_of_ble_eq_true rfl) (hR := ⟨⟨rfl, rfl⟩, Nat.le_of_ble_eq_true rfl, Nat.le_of_ble_eq_true rfl⟩) (hnc := ⟨Nat.zero_le _, Nat.zero_le _⟩) (fun r_45 y_45 h_45 => ?_)
    obtain ⟨e_45, ey_45⟩ := h_45
    obtain rfl := ey_45.symm
    obtain rfl : r_45 = nI (lo bv 8) := e_45
    by_cases hbt : x 0 (16 + 4 * lo av 4) ≤ 0
    · --
      refine rm_callW (As := [.ref (ad 8 9 0), .int (nI (lo av 4)), .int (nI (lo bv 8))]) (rest := []) hc hX.1 dL_act_280 (w_press_1 hI x (nI (lo av 4)) (nI (lo bv 8)) (x_press_3 hI x hfl (lo_lt (by omega)) (nI (lo bv 8)) (nn_nI (by have h9 := lo_lt (a := bv) (n := 8) (by omega); omega)) (nle_nI (a := lo bv 8) (b := 7) (by have h9 := lo_lt (a := bv) (n := 8) (by omega); omega) (by omega)) hbt)) mw_L_87 rfl rfl (Nat.le_of_ble_eq_true rfl) ⟨⟨rfl, rfl⟩, Nat.le_of_ble_eq_true rfl, Nat.le_of_ble_eq_true rfl⟩ ⟨by decide, by decide⟩ (fun r_47 y_47 h_47 => ?_)
      exact rm_iretS hc dL_act_283 (by decide) (by decide) (a_press0 hi (by omega) hbt h_47)
    · --
      refine rm_callW (As := [.ref (ad 8 9 0), .int (nI (lo av 4)), .int (nI (lo bv 8))]) (rest := []) hc hX.1 dL_act_280 (w_press hI x (nI (lo av 4)) (nI (lo bv 8)) (c_X8_press hI x (j := lo av 4) (lo_lt (by omega)) (nI (lo bv 8)) (nn_nI (by have h9 := lo_lt (a := bv) (n := 8) (by omega); omega)) (nle_nI (a := lo bv 8) (b := 7) (by have h9 := lo_lt (a := bv) (n := 8) (by omega); omega) (by omega)) mm (by have h9 := hc0.1.2.2.2.2.2.2.2.2.1; omega) hc0.1.2.2.2.2.2.2.2.1 hbt h6 ((hn.nxt hB).lo (Nat.zero_le _)) hF)) mw_L_87 rfl rfl (Nat.le_of_ble_eq_true rfl) ⟨⟨rfl, rfl⟩, Nat.le_of_ble_eq_true rfl, Nat.le_of_ble_eq_true rfl⟩ ⟨by decide, by decide⟩ (fun r_48 y_48 h_48 => ?_)
      exact rm_iretS hc dL_act_283 (by decide) (by decide) (a_press hi hc0 h6 hk6 hn h8 (by omega) hbt h_48)
  · --sort 12
    rw [show nI (lo sv 20) = 12 from congrArg nI eq]
    refine rm_tin (off := 228) (tgt := 270) hc dL_act_42 (by decide) (by decide) (by decide) (by decide) ?_
    refine rm_aload_n hc dL_act_270 rfl rfl ?_
    refine rm_iload hc dL_act_271 rfl ?_
    refine rm_iload hc dL_act_273 rfl ?_
    refine rm_bipush (v := 8) hc dL_act_275 (by decide) ?_
    refine rm_calliS (As := [.int bv, .int 8]) (rest := [.int (nI (lo av 4)), .ref (ad 8 9 0)]) hc dL_act_277 (c_L_low hI x bv (n := 8) (by omega) (by omega)) ms_L_63 (hn := rfl) (hst := rfl) (hw := Nat.le_of_ble_eq_true rfl) (hR := ⟨⟨rfl, rfl⟩, Nat.le_of_ble_eq_true rfl, Nat.le_of_ble_eq_true rfl⟩) (hnc := ⟨Nat.zero_le _, Nat.zero_le _⟩) (fun r_49 y_49 h_49 => ?_)
    obtain ⟨e_49, ey_49⟩ := h_49
    obtain rfl := ey_49.symm
    obtain rfl : r_49 = nI (lo bv 8) := e_49
    by_cases hbt : x 0 (16 + 4 * lo av 4) ≤ 0
    · --
      refine rm_callW (As := [.ref (ad 8 9 0), .int (nI (lo av 4)), .int (nI (lo bv 8))]) (rest := []) hc hX.1 dL_act_280 (w_press_1 hI x (nI (lo av 4)) (nI (lo bv 8)) (x_press_3 hI x hfl (lo_lt (by omega)) (nI (lo bv 8)) (nn_nI (by have h9 := lo_lt (a := bv) (n := 8) (by omega); omega)) (nle_nI (a := lo bv 8) (b := 7) (by have h9 := lo_lt (a := bv) (n := 8) (by omega); omega) (by omega)) hbt)) mw_L_87 rfl rfl (Nat.le_of_ble_eq_true rfl) ⟨⟨rfl, rfl⟩, Nat.le_of_ble_eq_true rfl, Nat.le_of_ble_eq_true rfl⟩ ⟨by decide, by decide⟩ (fun r_51 y_51 h_51 => ?_)
      exact rm_iretS hc dL_act_283 (by decide) (by decide) (a_press0 hi (by omega) hbt h_51)
    · --
      refine rm_callW (As := [.ref (ad 8 9 0), .int (nI (lo av 4)), .int (nI (lo bv 8))]) (rest := []) hc hX.1 dL_act_280 (w_press hI x (nI (lo av 4)) (nI (lo bv 8)) (c_X8_press hI x (j := lo av 4) (lo_lt (by omega)) (nI (lo bv 8)) (nn_nI (by have h9 := lo_lt (a := bv) (n := 8) (by omega); omega)) (nle_nI (a := lo bv 8) (b := 7) (by have h9 := lo_lt (a := bv) (n := 8) (by omega); omega) (by omega)) mm (by have h9 := hc0.1.2.2.2.2.2.2.2.2.1; omega) hc0.1.2.2.2.2.2.2.2.1 hbt h6 ((hn.nxt hB).lo (Nat.zero_le _)) hF)) mw_L_87 rfl rfl (Nat.le_of_ble_eq_true rfl) ⟨⟨rfl, rfl⟩, Nat.le_of_ble_eq_true rfl, Nat.le_of_ble_eq_true rfl⟩ ⟨by decide, by decide⟩ (fun r_52 y_52 h_52 => ?_)
      exact rm_iretS hc dL_act_283 (by decide) (by decide) (a_press hi hc0 h6 hk6 hn h8 (by omega) hbt h_52)
  · --sort 13
    rw [show nI (lo sv 20) = 13 from congrArg nI eq]
    refine rm_tin (off := 228) (tgt := 270) hc dL_act_42 (by decide) (by decide) (by decide) (by decide) ?_
    refine rm_aload_n hc dL_act_270 rfl rfl ?_
    refine rm_iload hc dL_act_271 rfl ?_
    refine rm_iload hc dL_act_273 rfl ?_
    refine rm_bipush (v := 8) hc dL_act_275 (by decide) ?_
    refine rm_calliS (As := [.int bv, .int 8]) (rest := [.int (nI (lo av 4)), .ref (ad 8 9 0)]) hc dL_act_277 (c_L_low hI x bv (n := 8) (by omega) (by omega)) ms_L_63 (hn := rfl) (hst := rfl) (hw := Nat.le_of_ble_eq_true rfl) (hR := ⟨⟨rfl, rfl⟩, Nat.le_of_ble_eq_true rfl, Nat.le_of_ble_eq_true rfl⟩) (hnc := ⟨Nat.zero_le _, Nat.zero_le _⟩) (fun r_53 y_53 h_53 => ?_)
    obtain ⟨e_53, ey_53⟩ := h_53
    obtain rfl := ey_53.symm
    obtain rfl : r_53 = nI (lo bv 8) := e_53
    by_cases hbt : x 0 (16 + 4 * lo av 4) ≤ 0
    · --
      refine rm_callW (As := [.ref (ad 8 9 0), .int (nI (lo av 4)), .int (nI (lo bv 8))]) (rest := []) hc hX.1 dL_act_280 (w_press_1 hI x (nI (lo av 4)) (nI (lo bv 8)) (x_press_3 hI x hfl (lo_lt (by omega)) (nI (lo bv 8)) (nn_nI (by have h9 := lo_lt (a := bv) (n := 8) (by omega); omega)) (nle_nI (a := lo bv 8) (b := 7) (by have h9 := lo_lt (a := bv) (n := 8) (by omega); omega) (by omega)) hbt)) mw_L_87 rfl rfl (Nat.le_of_ble_eq_true rfl) ⟨⟨rfl, rfl⟩, Nat.le_of_ble_eq_true rfl, Nat.le_of_ble_eq_true rfl⟩ ⟨by decide, by decide⟩ (fun r_55 y_55 h_55 => ?_)
      exact rm_iretS hc dL_act_283 (by decide) (by decide) (a_press0 hi (by omega) hbt h_55)
    · --
      refine rm_callW (As := [.ref (ad 8 9 0), .int (nI (lo av 4)), .int (nI (lo bv 8))]) (rest := []) hc hX.1 dL_act_280 (w_press hI x (nI (lo av 4)) (nI (lo bv 8)) (c_X8_press hI x (j := lo av 4) (lo_lt (by omega)) (nI (lo bv 8)) (nn_nI (by have h9 := lo_lt (a := bv) (n := 8) (by omega); omega)) (nle_nI (a := lo bv 8) (b := 7) (by have h9 := lo_lt (a := bv) (n := 8) (by omega); omega) (by omega)) mm (by have h9 := hc0.1.2.2.2.2.2.2.2.2.1; omega) hc0.1.2.2.2.2.2.2.2.1 hbt h6 ((hn.nxt hB).lo (Nat.zero_le _)) hF)) mw_L_87 rfl rfl (Nat.le_of_ble_eq_true rfl) ⟨⟨rfl, rfl⟩, Nat.le_of_ble_eq_true rfl, Nat.le_of_ble_eq_true rfl⟩ ⟨by decide, by decide⟩ (fun r_56 y_56 h_56 => ?_)
      exact rm_iretS hc dL_act_283 (by decide) (by decide) (a_press hi hc0 h6 hk6 hn h8 (by omega) hbt h_56)
  · --sort 14
    rw [show nI (lo sv 20) = 14 from congrArg nI eq]
    refine rm_tin (off := 228) (tgt := 270) hc dL_act_42 (by decide) (by decide) (by decide) (by decide) ?_
    refine rm_aload_n hc dL_act_270 rfl rfl ?_
    refine rm_iload hc dL_act_271 rfl ?_
    refine rm_iload hc dL_act_273 rfl ?_
    refine rm_bipush (v := 8) hc dL_act_275 (by decide) ?_
    refine rm_calliS (As := [.int bv, .int 8]) (rest := [.int (nI (lo av 4)), .ref (ad 8 9 0)]) hc dL_act_277 (c_L_low hI x bv (n := 8) (by omega) (by omega)) ms_L_63 (hn := rfl) (hst := rfl) (hw := Nat.le_of_ble_eq_true rfl) (hR := ⟨⟨rfl, rfl⟩, Nat.le_of_ble_eq_true rfl, Nat.le_of_ble_eq_true rfl⟩) (hnc := ⟨Nat.zero_le _, Nat.zero_le _⟩) (fun r_57 y_57 h_57 => ?_)
    obtain ⟨e_57, ey_57⟩ := h_57
    obtain rfl := ey_57.symm
    obtain rfl : r_57 = nI (lo bv 8) := e_57
    by_cases hbt : x 0 (16 + 4 * lo av 4) ≤ 0
    · --
      refine rm_callW (As := [.ref (ad 8 9 0), .int (nI (lo av 4)), .int (nI (lo bv 8))]) (rest := []) hc hX.1 dL_act_280 (w_press_1 hI x (nI (lo av 4)) (nI (lo bv 8)) (x_press_3 hI x hfl (lo_lt (by omega)) (nI (lo bv 8)) (nn_nI (by have h9 := lo_lt (a := bv) (n := 8) (by omega); omega)) (nle_nI (a := lo bv 8) (b := 7) (by have h9 := lo_lt (a := bv) (n := 8) (by omega); omega) (by omega)) hbt)) mw_L_87 rfl rfl (Nat.le_of_ble_eq_true rfl) ⟨⟨rfl, rfl⟩, Nat.le_of_ble_eq_true rfl, Nat.le_of_ble_eq_true rfl⟩ ⟨by decide, by decide⟩ (fun r_59 y_59 h_59 => ?_)
      exact rm_iretS hc dL_act_283 (by decide) (by decide) (a_press0 hi (by omega) hbt h_59)
    · --
      refine rm_callW (As := [.ref (ad 8 9 0), .int (nI (lo av 4)), .int (nI (lo bv 8))]) (rest := []) hc hX.1 dL_act_280 (w_press hI x (nI (lo av 4)) (nI (lo bv 8)) (c_X8_press hI x (j := lo av 4) (lo_lt (by omega)) (nI (lo bv 8)) (nn_nI (by have h9 := lo_lt (a := bv) (n := 8) (by omega); omega)) (nle_nI (a := lo bv 8) (b := 7) (by have h9 := lo_lt (a := bv) (n := 8) (by omega); omega) (by omega)) mm (by have h9 := hc0.1.2.2.2.2.2.2.2.2.1; omega) hc0.1.2.2.2.2.2.2.2.1 hbt h6 ((hn.nxt hB).lo (Nat.zero_le _)) hF)) mw_L_87 rfl rfl (Nat.le_of_ble_eq_true rfl) ⟨⟨rfl, rfl⟩, Nat.le_of_ble_eq_true rfl, Nat.le_of_ble_eq_true rfl⟩ ⟨by decide, by decide⟩ (fun r_60 y_60 h_60 => ?_)
      exact rm_iretS hc dL_act_283 (by decide) (by decide) (a_press hi hc0 h6 hk6 hn h8 (by omega) hbt h_60)
  · --sort 15
    rw [show nI (lo sv 20) = 15 from congrArg nI eq]
    refine rm_tin (off := 228) (tgt := 270) hc dL_act_42 (by decide) (by decide) (by decide) (by decide) ?_
    refine rm_aload_n hc dL_act_270 rfl rfl ?_
    refine rm_iload hc dL_act_271 rfl ?_
    refine rm_iload hc dL_act_273 rfl ?_
    refine rm_bipush (v := 8) hc dL_act_275 (by decide) ?_
    refine rm_calliS (As := [.int bv, .int 8]) (rest := [.int (nI (lo av 4)), .ref (ad 8 9 0)]) hc dL_act_277 (c_L_low hI x bv (n := 8) (by omega) (by omega)) ms_L_63 (hn := rfl) (hst := rfl) (hw := Nat.le_of_ble_eq_true rfl) (hR := ⟨⟨rfl, rfl⟩, Nat.le_of_ble_eq_true rfl, Nat.le_of_ble_eq_true rfl⟩) (hnc := ⟨Nat.zero_le _, Nat.zero_le _⟩) (fun r_61 y_61 h_61 => ?_)
    obtain ⟨e_61, ey_61⟩ := h_61
    obtain rfl := ey_61.symm
    obtain rfl : r_61 = nI (lo bv 8) := e_61
    by_cases hbt : x 0 (16 + 4 * lo av 4) ≤ 0
    · --
      refine rm_callW (As := [.ref (ad 8 9 0), .int (nI (lo av 4)), .int (nI (lo bv 8))]) (rest := []) hc hX.1 dL_act_280 (w_press_1 hI x (nI (lo av 4)) (nI (lo bv 8)) (x_press_3 hI x hfl (lo_lt (by omega)) (nI (lo bv 8)) (nn_nI (by have h9 := lo_lt (a := bv) (n := 8) (by omega); omega)) (nle_nI (a := lo bv 8) (b := 7) (by have h9 := lo_lt (a := bv) (n := 8) (by omega); omega) (by omega)) hbt)) mw_L_87 rfl rfl (Nat.le_of_ble_eq_true rfl) ⟨⟨rfl, rfl⟩, Nat.le_of_ble_eq_true rfl, Nat.le_of_ble_eq_true rfl⟩ ⟨by decide, by decide⟩ (fun r_63 y_63 h_63 => ?_)
      exact rm_iretS hc dL_act_283 (by decide) (by decide) (a_press0 hi (by omega) hbt h_63)
    · --
      refine rm_callW (As := [.ref (ad 8 9 0), .int (nI (lo av 4)), .int (nI (lo bv 8))]) (rest := []) hc hX.1 dL_act_280 (w_press hI x (nI (lo av 4)) (nI (lo bv 8)) (c_X8_press hI x (j := lo av 4) (lo_lt (by omega)) (nI (lo bv 8)) (nn_nI (by have h9 := lo_lt (a := bv) (n := 8) (by omega); omega)) (nle_nI (a := lo bv 8) (b := 7) (by have h9 := lo_lt (a := bv) (n := 8) (by omega); omega) (by omega)) mm (by have h9 := hc0.1.2.2.2.2.2.2.2.2.1; omega) hc0.1.2.2.2.2.2.2.2.1 hbt h6 ((hn.nxt hB).lo (Nat.zero_le _)) hF)) mw_L_87 rfl rfl (Nat.le_of_ble_eq_true rfl) ⟨⟨rfl, rfl⟩, Nat.le_of_ble_eq_true rfl, Nat.le_of_ble_eq_true rfl⟩ ⟨by decide, by decide⟩ (fun r_64 y_64 h_64 => ?_)
      exact rm_iretS hc dL_act_283 (by decide) (by decide) (a_press hi hc0 h6 hk6 hn h8 (by omega) hbt h_64)
  · --sort 16
    rw [show nI (lo sv 20) = 16 from congrArg nI eq]
    refine rm_tin (off := 228) (tgt := 270) hc dL_act_42 (by decide) (by decide) (by decide) (by decide) ?_
    refine rm_aload_n hc dL_act_270 rfl rfl ?_
    refine rm_iload hc dL_act_271 rfl ?_
    refine rm_iload hc dL_act_273 rfl ?_
    refine rm_bipush (v := 8) hc dL_act_275 (by decide) ?_
    refine rm_calliS (As := [.int bv, .int 8]) (rest := [.int (nI (lo av 4)), .ref (ad 8 9 0)]) hc dL_act_277 (c_L_low hI x bv (n := 8) (by omega) (by omega)) ms_L_63 (hn := rfl) (hst := rfl) (hw := Nat.le_of_ble_eq_true rfl) (hR := ⟨⟨rfl, rfl⟩, Nat.le_of_ble_eq_true rfl, Nat.le_of_ble_eq_true rfl⟩) (hnc := ⟨Nat.zero_le _, Nat.zero_le _⟩) (fun r_65 y_65 h_65 => ?_)
    obtain ⟨e_65, ey_65⟩ := h_65
    obtain rfl := ey_65.symm
    obtain rfl : r_65 = nI (lo bv 8) := e_65
    by_cases hbt : x 0 (16 + 4 * lo av 4) ≤ 0
    · --
      refine rm_callW (As := [.ref (ad 8 9 0), .int (nI (lo av 4)), .int (nI (lo bv 8))]) (rest := []) hc hX.1 dL_act_280 (w_press_1 hI x (nI (lo av 4)) (nI (lo bv 8)) (x_press_3 hI x hfl (lo_lt (by omega)) (nI (lo bv 8)) (nn_nI (by have h9 := lo_lt (a := bv) (n := 8) (by omega); omega)) (nle_nI (a := lo bv 8) (b := 7) (by have h9 := lo_lt (a := bv) (n := 8) (by omega); omega) (by omega)) hbt)) mw_L_87 rfl rfl (Nat.le_of_ble_eq_true rfl) ⟨⟨rfl, rfl⟩, Nat.le_of_ble_eq_true rfl, Nat.le_of_ble_eq_true rfl⟩ ⟨by decide, by decide⟩ (fun r_67 y_67 h_67 => ?_)
      exact rm_iretS hc dL_act_283 (by decide) (by decide) (a_press0 hi (by omega) hbt h_67)
    · --
      refine rm_callW (As := [.ref (ad 8 9 0), .int (nI (lo av 4)), .int (nI (lo bv 8))]) (rest := []) hc hX.1 dL_act_280 (w_press hI x (nI (lo av 4)) (nI (lo bv 8)) (c_X8_press hI x (j := lo av 4) (lo_lt (by omega)) (nI (lo bv 8)) (nn_nI (by have h9 := lo_lt (a := bv) (n := 8) (by omega); omega)) (nle_nI (a := lo bv 8) (b := 7) (by have h9 := lo_lt (a := bv) (n := 8) (by omega); omega) (by omega)) mm (by have h9 := hc0.1.2.2.2.2.2.2.2.2.1; omega) hc0.1.2.2.2.2.2.2.2.1 hbt h6 ((hn.nxt hB).lo (Nat.zero_le _)) hF)) mw_L_87 rfl rfl (Nat.le_of_ble_eq_true rfl) ⟨⟨rfl, rfl⟩, Nat.le_of_ble_eq_true rfl, Nat.le_of_ble_eq_true rfl⟩ ⟨by decide, by decide⟩ (fun r_68 y_68 h_68 => ?_)
      exact rm_iretS hc dL_act_283 (by decide) (by decide) (a_press hi hc0 h6 hk6 hn h8 (by omega) hbt h_68)
  · --sort 17
    rw [show nI (lo sv 20) = 17 from congrArg nI eq]
    refine rm_tin (off := 242) (tgt := 284) hc dL_act_42 (by decide) (by decide) (by decide) (by decide) ?_
    refine rm_aload_n hc dL_act_284 rfl rfl ?_
    refine rm_iload_n hc dL_act_285 rfl rfl ?_
    refine rm_bipush (v := 8) hc dL_act_286 (by decide) ?_
    refine rm_calliS (As := [.int av, .int 8]) (rest := [.ref (ad 8 9 0)]) hc dL_act_288 (c_L_low hI x av (n := 8) (by omega) (by omega)) ms_L_63 (hn := rfl) (hst := rfl) (hw := Nat.le_of_ble_eq_true rfl) (hR := ⟨⟨rfl, rfl⟩, Nat.le_of_ble_eq_true rfl, Nat.le_of_ble_eq_true rfl⟩) (hnc := ⟨Nat.zero_le _, Nat.zero_le _⟩) (fun r_69 y_69 h_69 => ?_)
    obtain ⟨e_69, ey_69⟩ := h_69
    obtain rfl := ey_69.symm
    obtain rfl : r_69 = nI (lo av 8) := e_69
    refine rm_iload hc dL_act_291 rfl ?_
    refine rm_bipush (v := 8) hc dL_act_293 (by decide) ?_
    refine rm_calliS (As := [.int bv, .int 8]) (rest := [.int (nI (lo av 8)), .ref (ad 8 9 0)]) hc dL_act_295 (c_L_low hI x bv (n := 8) (by omega) (by omega)) ms_L_63 (hn := rfl) (hst := rfl) (hw := Nat.le_of_ble_eq_true rfl) (hR := ⟨⟨rfl, rfl⟩, Nat.le_of_ble_eq_true rfl, Nat.le_of_ble_eq_true rfl⟩) (hnc := ⟨Nat.zero_le _, Nat.zero_le _⟩) (fun r_70 y_70 h_70 => ?_)
    obtain ⟨e_70, ey_70⟩ := h_70
    obtain rfl := ey_70.symm
    obtain rfl : r_70 = nI (lo bv 8) := e_70
    by_cases hpl : lo av 8 < nr
    · --
      refine rm_callW (As := [.ref (ad 8 9 0), .int (nI (lo av 8)), .int (nI (lo bv 8))]) (rest := []) hc hX.1 dL_act_298 (w_again hI x (nI (lo av 8)) (nI (lo bv 8)) (c_X8_again hI x (ii := lo av 8) (nr := nr) hpl hr8 hnr (nI (lo bv 8)) (nn_nI (by have h9 := lo_lt (a := bv) (n := 8) (by omega); omega)) (nle_nI (a := lo bv 8) (b := 7) (by have h9 := lo_lt (a := bv) (n := 8) (by omega); omega) (by omega)) mm (by have h9 := hc0.1.2.2.2.2.2.2.2.2.1; omega) hc0.1.2.2.2.2.2.2.2.1 h6 ((hn.nxt hB).lo (Nat.zero_le _)) hF)) mw_L_90 rfl rfl (Nat.le_of_ble_eq_true rfl) ⟨⟨rfl, rfl⟩, Nat.le_of_ble_eq_true rfl, Nat.le_of_ble_eq_true rfl⟩ ⟨by decide, by decide⟩ (fun r_72 y_72 h_72 => ?_)
      exact rm_iretS hc dL_act_301 (by decide) (by decide) (a_again hi hc0 h6 hk6 hn h8 hr8 hnr (by omega) hpl h_72)
    · --
      refine rm_callW (As := [.ref (ad 8 9 0), .int (nI (lo av 8)), .int (nI (lo bv 8))]) (rest := []) hc hX.1 dL_act_298 (w_again_1 hI x (nI (lo av 8)) (nI (lo bv 8)) (x_again_1 hI x hfl (nI (lo av 8)) (nI (lo bv 8)) hnr (Or.inr ((nI_leI (by omega) (by have h9 := lo_lt (a := av) (n := 8) (by omega); omega)).mpr (by omega))))) mw_L_90 rfl rfl (Nat.le_of_ble_eq_true rfl) ⟨⟨rfl, rfl⟩, Nat.le_of_ble_eq_true rfl, Nat.le_of_ble_eq_true rfl⟩ ⟨by decide, by decide⟩ (fun r_73 y_73 h_73 => ?_)
      exact rm_iretS hc dL_act_301 (by decide) (by decide) (a_again0 hi (by omega) hpl h_73)
  · --sort 18
    rw [show nI (lo sv 20) = 18 from congrArg nI eq]
    refine rm_tin (off := 242) (tgt := 284) hc dL_act_42 (by decide) (by decide) (by decide) (by decide) ?_
    refine rm_aload_n hc dL_act_284 rfl rfl ?_
    refine rm_iload_n hc dL_act_285 rfl rfl ?_
    refine rm_bipush (v := 8) hc dL_act_286 (by decide) ?_
    refine rm_calliS (As := [.int av, .int 8]) (rest := [.ref (ad 8 9 0)]) hc dL_act_288 (c_L_low hI x av (n := 8) (by omega) (by omega)) ms_L_63 (hn := rfl) (hst := rfl) (hw := Nat.le_of_ble_eq_true rfl) (hR := ⟨⟨rfl, rfl⟩, Nat.le_of_ble_eq_true rfl, Nat.le_of_ble_eq_true rfl⟩) (hnc := ⟨Nat.zero_le _, Nat.zero_le _⟩) (fun r_74 y_74 h_74 => ?_)
    obtain ⟨e_74, ey_74⟩ := h_74
    obtain rfl := ey_74.symm
    obtain rfl : r_74 = nI (lo av 8) := e_74
    refine rm_iload hc dL_act_291 rfl ?_
    refine rm_bipush (v := 8) hc dL_act_293 (by decide) ?_
    refine rm_calliS (As := [.int bv, .int 8]) (rest := [.int (nI (lo av 8)), .ref (ad 8 9 0)]) hc dL_act_295 (c_L_low hI x bv (n := 8) (by omega) (by omega)) ms_L_63 (hn := rfl) (hst := rfl) (hw := Nat.le_of_ble_eq_true rfl) (hR := ⟨⟨rfl, rfl⟩, Nat.le_of_ble_eq_true rfl, Nat.le_of_ble_eq_true rfl⟩) (hnc := ⟨Nat.zero_le _, Nat.zero_le _⟩) (fun r_75 y_75 h_75 => ?_)
    obtain ⟨e_75, ey_75⟩ := h_75
    obtain rfl := ey_75.symm
    obtain rfl : r_75 = nI (lo bv 8) := e_75
    by_cases hpl : lo av 8 < nr
    · --
      refine rm_callW (As := [.ref (ad 8 9 0), .int (nI (lo av 8)), .int (nI (lo bv 8))]) (rest := []) hc hX.1 dL_act_298 (w_again hI x (nI (lo av 8)) (nI (lo bv 8)) (c_X8_again hI x (ii := lo av 8) (nr := nr) hpl hr8 hnr (nI (lo bv 8)) (nn_nI (by have h9 := lo_lt (a := bv) (n := 8) (by omega); omega)) (nle_nI (a := lo bv 8) (b := 7) (by have h9 := lo_lt (a := bv) (n := 8) (by omega); omega) (by omega)) mm (by have h9 := hc0.1.2.2.2.2.2.2.2.2.1; omega) hc0.1.2.2.2.2.2.2.2.1 h6 ((hn.nxt hB).lo (Nat.zero_le _)) hF)) mw_L_90 rfl rfl (Nat.le_of_ble_eq_true rfl) ⟨⟨rfl, rfl⟩, Nat.le_of_ble_eq_true rfl, Nat.le_of_ble_eq_true rfl⟩ ⟨by decide, by decide⟩ (fun r_77 y_77 h_77 => ?_)
      exact rm_iretS hc dL_act_301 (by decide) (by decide) (a_again hi hc0 h6 hk6 hn h8 hr8 hnr (by omega) hpl h_77)
    · --
      refine rm_callW (As := [.ref (ad 8 9 0), .int (nI (lo av 8)), .int (nI (lo bv 8))]) (rest := []) hc hX.1 dL_act_298 (w_again_1 hI x (nI (lo av 8)) (nI (lo bv 8)) (x_again_1 hI x hfl (nI (lo av 8)) (nI (lo bv 8)) hnr (Or.inr ((nI_leI (by omega) (by have h9 := lo_lt (a := av) (n := 8) (by omega); omega)).mpr (by omega))))) mw_L_90 rfl rfl (Nat.le_of_ble_eq_true rfl) ⟨⟨rfl, rfl⟩, Nat.le_of_ble_eq_true rfl, Nat.le_of_ble_eq_true rfl⟩ ⟨by decide, by decide⟩ (fun r_78 y_78 h_78 => ?_)
      exact rm_iretS hc dL_act_301 (by decide) (by decide) (a_again0 hi (by omega) hpl h_78)
  · --sort 19
    rw [show nI (lo sv 20) = 19 from congrArg nI eq]
    refine rm_tout (tgt := 302) hc dL_act_42 (by decide) (by decide) ?_
    refine rm_aload_n hc dL_act_302 rfl rfl ?_
    rcases Nat.eq_zero_or_pos kq with hkz | hkz
    · --
      subst hkz
      refine rm_callW (As := [.ref (ad 8 9 0)]) (rest := []) hc hX.1 dL_act_303 (w_undo_1 hI x (x_undo_1 hI x hfl h8)) mw_L_92 rfl rfl (Nat.le_of_ble_eq_true rfl) ⟨⟨rfl, rfl⟩, Nat.le_of_ble_eq_true rfl, Nat.le_of_ble_eq_true rfl⟩ ⟨by decide, by decide⟩ (fun r_80 y_80 h_80 => ?_)
      exact rm_iretS hc dL_act_306 (by decide) (by decide) (a_undo0 hi (by omega) h_80)
    · --
      obtain ⟨k1, rfl⟩ : ∃ k1, kq = k1 + 1 := ⟨kq - 1, by omega⟩
      refine rm_callW (As := [.ref (ad 8 9 0)]) (rest := []) hc hX.1 dL_act_303 (w_undo hI x (c_X8_undo hI x (hl := k1 + 1) h6 ((hn.nxt hB).lo (by omega)) hi.flg h8 (by omega) hk6)) mw_L_92 rfl rfl (Nat.le_of_ble_eq_true rfl) ⟨⟨rfl, rfl⟩, Nat.le_of_ble_eq_true rfl, Nat.le_of_ble_eq_true rfl⟩ ⟨by decide, by decide⟩ (fun r_81 y_81 h_81 => ?_)
      exact rm_iretS hc dL_act_306 (by decide) (by decide) (a_undo hi h6 hk6 hn h8 (by omega) h_81)
