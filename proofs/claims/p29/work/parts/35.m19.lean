theorem ckx_221 : Cond.classLink RX8 221 "java/lang/IndexOutOfBoundsException" ∈ TB ∧ Cond.initialized "java/lang/IndexOutOfBoundsException" ∈ TB := by decide +kernel
theorem ckx_224 : Cond.classLink RX8 224 "java/lang/IllegalArgumentException" ∈ TB ∧ Cond.initialized "java/lang/IllegalArgumentException" ∈ TB := by decide +kernel
theorem ckx_227 : Cond.classLink RX8 227 "java/lang/IllegalStateException" ∈ TB ∧ Cond.initialized "java/lang/IllegalStateException" ∈ TB := by decide +kernel
theorem atx_221 : ∀ w ∈ vx_at0 RX8 223 "java/lang/IndexOutOfBoundsException" xnI, w ∈ TB ∨ w ∈ badL := by decide +kernel
theorem atx_224 : ∀ w ∈ vx_at0 RX8 226 "java/lang/IllegalArgumentException" xnI, w ∈ TB ∨ w ∈ badL := by decide +kernel
theorem atx_227 : ∀ w ∈ vx_at0 RX8 229 "java/lang/IllegalStateException" xnI, w ∈ TB ∨ w ∈ badL := by decide +kernel
theorem gdx_221 : ∀ w ∈ Cond.classLink RX8 221 "java/lang/IndexOutOfBoundsException" :: Cond.initialized "java/lang/IndexOutOfBoundsException" :: vx_at0 RX8 223 "java/lang/IndexOutOfBoundsException" xnI, vx_ot w = true := by decide +kernel
theorem gdx_224 : ∀ w ∈ Cond.classLink RX8 224 "java/lang/IllegalArgumentException" :: Cond.initialized "java/lang/IllegalArgumentException" :: vx_at0 RX8 226 "java/lang/IllegalArgumentException" xnI, vx_ot w = true := by decide +kernel
theorem gdx_227 : ∀ w ∈ Cond.classLink RX8 227 "java/lang/IllegalStateException" :: Cond.initialized "java/lang/IllegalStateException" :: vx_at0 RX8 229 "java/lang/IllegalStateException" xnI, vx_ot w = true := by decide +kernel
abbrev rmx_X8_needIndex : Room := { frames := 6, cells := 1, slots := 6, locals := 90 }

abbrev rmx_X8_needRange : Room := { frames := 7, cells := 1, slots := 6, locals := 110 }

abbrev rmx_X8_needArgument : Room := { frames := 6, cells := 1, slots := 6, locals := 90 }

abbrev rmx_X8_needState : Room := { frames := 6, cells := 1, slots := 6, locals := 90 }

abbrev rmx_X8_make : Room := { frames := 8, cells := 1, slots := 6, locals := 132 }

abbrev rmx_X8_battery : Room := { frames := 8, cells := 1, slots := 6, locals := 132 }

abbrev rmx_X8_press : Room := { frames := 8, cells := 1, slots := 6, locals := 132 }

abbrev rmx_X8_again : Room := { frames := 8, cells := 1, slots := 6, locals := 132 }

abbrev rmx_X8_learn : Room := { frames := 7, cells := 1, slots := 6, locals := 111 }

abbrev rmx_X8_forget : Room := { frames := 7, cells := 1, slots := 6, locals := 111 }

abbrev rmx_X8_shut : Room := { frames := 7, cells := 1, slots := 6, locals := 111 }

abbrev rmx_X8_unlock : Room := { frames := 7, cells := 1, slots := 6, locals := 111 }

abbrev rmx_X8_set : Room := { frames := 8, cells := 1, slots := 6, locals := 132 }

abbrev rmx_X8_undo : Room := { frames := 7, cells := 1, slots := 6, locals := 110 }

abbrev rmx_X8_fob : Room := { frames := 8, cells := 1, slots := 6, locals := 132 }

abbrev rmx_X8_slot : Room := { frames := 8, cells := 1, slots := 6, locals := 132 }

abbrev rmx_X8_door : Room := { frames := 8, cells := 1, slots := 6, locals := 132 }

abbrev rmx_X8_air : Room := { frames := 7, cells := 1, slots := 6, locals := 110 }

abbrev rmx_X8_count : Room := { frames := 8, cells := 1, slots := 6, locals := 132 }

abbrev rmx_X8_setting : Room := { frames := 7, cells := 1, slots := 6, locals := 111 }

abbrev rmx_X8_ifHeard : Room := { frames := 8, cells := 1, slots := 6, locals := 132 }

abbrev rmx_X8_opensIn : Room := { frames := 7, cells := 1, slots := 6, locals := 111 }

abbrev rmx_X8_unheard : Room := { frames := 7, cells := 1, slots := 6, locals := 119 }

abbrev rmx_X8_useful : Room := { frames := 7, cells := 1, slots := 6, locals := 116 }

set_option maxHeartbeats 4000000 in
set_option maxRecDepth 100000 in
theorem x_needIndex {l : Launch} {D : va_G} {cy : Nat → ClassId} {ad : Ads} (hI : IJ ad) (x : Mem) (hfl : l.stackTraces = false) (a b : Int32) (h0 : a < 0 ∨ b ≤ a) : Ctx l yX8_needIndex cX8_needIndex 2 none rmx_X8_needIndex D cy ad [.int a, .int b] x "java/lang/IndexOutOfBoundsException" := by
  refine rm_entryX hI (by decide) (Nat.le_of_ble_eq_true rfl) ?_
  intro p e s m args below meth c hc hX
  show RM _ _ _ _ _ _ _ _ _ _ _ _ _ _ _ _ _ [(0, .int a), (1, .int b)] []
  refine rm_iload_n hc dX8_needIndex_0 rfl rfl ?_
  refine rm_if_lt (tgt := 9) hc dX8_needIndex_1 (by decide) (fun c_1 => ?_) (fun c_1 => ?_)
  · --T
    exact rm_throw0 (own := RX8) (ik := 221) (ic := 223) hc hX hfl (by decide +kernel) ckx_221 atx_221 gdx_221 dX8_needIndex_9 dX8_needIndex_12 dX8_needIndex_13 dX8_needIndex_16 (Nat.le_of_ble_eq_true rfl) (Nat.le_of_ble_eq_true rfl) (Nat.le_of_ble_eq_true rfl) (Nat.le_of_ble_eq_true rfl)
  · --F
    refine rm_iload_n hc dX8_needIndex_4 rfl rfl ?_
    refine rm_iload_n hc dX8_needIndex_5 rfl rfl ?_
    refine rm_icmp_lt (tgt := 17) hc dX8_needIndex_6 (by decide) (fun h9 => absurd h9 (Int32.not_lt.mpr (h0.resolve_left c_1))) (fun _ => ?_)
    exact rm_throw0 (own := RX8) (ik := 221) (ic := 223) hc hX hfl (by decide +kernel) ckx_221 atx_221 gdx_221 dX8_needIndex_9 dX8_needIndex_12 dX8_needIndex_13 dX8_needIndex_16 (Nat.le_of_ble_eq_true rfl) (Nat.le_of_ble_eq_true rfl) (Nat.le_of_ble_eq_true rfl) (Nat.le_of_ble_eq_true rfl)

set_option maxHeartbeats 4000000 in
set_option maxRecDepth 100000 in
theorem x_needArgument {l : Launch} {D : va_G} {cy : Nat → ClassId} {ad : Ads} (hI : IJ ad) (x : Mem) (hfl : l.stackTraces = false)  : Ctx l yX8_needArgument cX8_needArgument 1 none rmx_X8_needArgument D cy ad [.int 0] x "java/lang/IllegalArgumentException" := by
  refine rm_entryX hI (by decide) (Nat.le_of_ble_eq_true rfl) ?_
  intro p e s m args below meth c hc hX
  show RM _ _ _ _ _ _ _ _ _ _ _ _ _ _ _ _ _ [(0, .int 0)] []
  refine rm_iload_n hc dX8_needArgument_0 rfl rfl ?_
  refine rm_if_ne (tgt := 12) hc dX8_needArgument_1 (by decide) (fun h => absurd h (by decide)) (fun _ => ?_)
  exact rm_throw0 (own := RX8) (ik := 224) (ic := 226) hc hX hfl (by decide +kernel) ckx_224 atx_224 gdx_224 dX8_needArgument_4 dX8_needArgument_7 dX8_needArgument_8 dX8_needArgument_11 (Nat.le_of_ble_eq_true rfl) (Nat.le_of_ble_eq_true rfl) (Nat.le_of_ble_eq_true rfl) (Nat.le_of_ble_eq_true rfl)

set_option maxHeartbeats 4000000 in
set_option maxRecDepth 100000 in
theorem x_needState {l : Launch} {D : va_G} {cy : Nat → ClassId} {ad : Ads} (hI : IJ ad) (x : Mem) (hfl : l.stackTraces = false)  : Ctx l yX8_needState cX8_needState 1 none rmx_X8_needState D cy ad [.int 0] x "java/lang/IllegalStateException" := by
  refine rm_entryX hI (by decide) (Nat.le_of_ble_eq_true rfl) ?_
  intro p e s m args below meth c hc hX
  show RM _ _ _ _ _ _ _ _ _ _ _ _ _ _ _ _ _ [(0, .int 0)] []
  refine rm_iload_n hc dX8_needState_0 rfl rfl ?_
  refine rm_if_ne (tgt := 12) hc dX8_needState_1 (by decide) (fun h => absurd h (by decide)) (fun _ => ?_)
  exact rm_throw0 (own := RX8) (ik := 227) (ic := 229) hc hX hfl (by decide +kernel) ckx_227 atx_227 gdx_227 dX8_needState_4 dX8_needState_7 dX8_needState_8 dX8_needState_11 (Nat.le_of_ble_eq_true rfl) (Nat.le_of_ble_eq_true rfl) (Nat.le_of_ble_eq_true rfl) (Nat.le_of_ble_eq_true rfl)

set_option maxHeartbeats 4000000 in
set_option maxRecDepth 100000 in
theorem x_needRange {l : Launch} {D : va_G} {cy : Nat → ClassId} {ad : Ads} (hI : IJ ad) (x : Mem) (hfl : l.stackTraces = false) (a lo hi2 : Int32) (h0 : a < lo ∨ hi2 < a) : Ctx l yX8_needRange cX8_needRange 3 none rmx_X8_needRange D cy ad [.int a, .int lo, .int hi2] x "java/lang/IllegalArgumentException" := by
  refine rm_entryX hI (by decide) (Nat.le_of_ble_eq_true rfl) ?_
  intro p e s m args below meth c hc hX
  show RM _ _ _ _ _ _ _ _ _ _ _ _ _ _ _ _ _ [(0, .int a), (1, .int lo), (2, .int hi2)] []
  refine rm_iload_n hc dX8_needRange_0 rfl rfl ?_
  refine rm_iload_n hc dX8_needRange_1 rfl rfl ?_
  refine rm_icmp_lt (tgt := 14) hc dX8_needRange_2 (by decide) (fun c_1 => ?_) (fun c_1 => ?_)
  · --T
    refine rm_iconst (v := 0) hc dX8_needRange_14 (by decide) ?_
    exact rm_thrS (As := [.int 0]) (rest := []) hc hX dX8_needRange_15 (x_needArgument hI x hfl) ms_X8_151 (hn := rfl) (hst := rfl) (hw := Nat.le_of_ble_eq_true rfl) (hR := ⟨⟨rfl, rfl⟩, Nat.le_of_ble_eq_true rfl, Nat.le_of_ble_eq_true rfl⟩) (hnc := ⟨Nat.le_of_ble_eq_true rfl, Nat.le_of_ble_eq_true rfl⟩)
  · --F
    refine rm_iload_n hc dX8_needRange_5 rfl rfl ?_
    refine rm_iload_n hc dX8_needRange_6 rfl rfl ?_
    refine rm_icmp_gt (tgt := 14) hc dX8_needRange_7 (by decide) (fun _ => ?_) (fun h9 => absurd (h0.resolve_left c_1) h9)
    refine rm_iconst (v := 0) hc dX8_needRange_14 (by decide) ?_
    exact rm_thrS (As := [.int 0]) (rest := []) hc hX dX8_needRange_15 (x_needArgument hI x hfl) ms_X8_151 (hn := rfl) (hst := rfl) (hw := Nat.le_of_ble_eq_true rfl) (hR := ⟨⟨rfl, rfl⟩, Nat.le_of_ble_eq_true rfl, Nat.le_of_ble_eq_true rfl⟩) (hnc := ⟨Nat.le_of_ble_eq_true rfl, Nat.le_of_ble_eq_true rfl⟩)

set_option maxHeartbeats 4000000 in
set_option maxRecDepth 100000 in
theorem x_press_3 {l : Launch} {D : va_G} {cy : Nat → ClassId} {ad : Ads} (hI : IJ ad) (x : Mem) (hfl : l.stackTraces = false) {j : Nat} (hj : j < 4) (p1 : Int32) (hs1 : ¬ p1 < 0) (hs2 : ¬ 7 < p1) (hbat : x 0 (16 + 4 * j) ≤ 0) : Ctx l yX8_press cX8_press 3 (some .int) rmx_X8_press D cy ad [.ref (ad 8 9 0), .int (nI (j)), .int p1] x "java/lang/IllegalStateException" := by
  refine rm_entryX hI (by decide) (Nat.le_of_ble_eq_true rfl) ?_
  intro p e s m args below meth c hc hX
  show RM _ _ _ _ _ _ _ _ _ _ _ _ _ _ _ _ _ [(0, .ref (ad 8 9 0)), (1, .int (nI (j))), (2, .int p1)] []
  refine rm_iload_n hc dX8_press_0 rfl rfl ?_
  refine rm_iconst (v := 4) hc dX8_press_1 (by decide) ?_
  refine rm_callvS (As := [.int (nI (j)), .int 4]) (rest := []) hc dX8_press_2 (c_X8_needIndex hI x (nI (j)) 4 (nI_pos (n := j) (by omega)) (nI_lt (a := j) (b := 4) (by omega) (by omega))) ms_X8_37 (hn := rfl) (hst := rfl) (hw := Nat.le_of_ble_eq_true rfl) (hR := ⟨⟨rfl, rfl⟩, Nat.le_of_ble_eq_true rfl, Nat.le_of_ble_eq_true rfl⟩) (hnc := ⟨Nat.zero_le _, Nat.zero_le _⟩) (fun y_1 h_1 => ?_)
  obtain rfl := h_1.symm
  refine rm_iload_n hc dX8_press_5 rfl rfl ?_
  refine rm_iconst (v := 0) hc dX8_press_6 (by decide) ?_
  refine rm_bipush (v := 7) hc dX8_press_7 (by decide) ?_
  refine rm_callvS (As := [.int p1, .int 0, .int 7]) (rest := []) hc dX8_press_9 (c_X8_needRange hI x p1 0 7 hs1 hs2) ms_X8_41 (hn := rfl) (hst := rfl) (hw := Nat.le_of_ble_eq_true rfl) (hR := ⟨⟨rfl, rfl⟩, Nat.le_of_ble_eq_true rfl, Nat.le_of_ble_eq_true rfl⟩) (hnc := ⟨Nat.zero_le _, Nat.zero_le _⟩) (fun y_2 h_2 => ?_)
  obtain rfl := h_2.symm
  refine rm_aload_n hc dX8_press_12 rfl rfl ?_
  refine rm_get hc dX8_press_13 fl_X8_10 dm_9 rfl rfl ?_
  refine rm_iload_n hc dX8_press_16 rfl rfl ?_
  refine rm_calliV (As := [.int (nI (j))]) (rest := []) hc dX8_press_17 (c_X6_canPress hI x (k := 0) (j := j) (by omega) (by omega)) mv_X8_65 (dm_0 (by omega)) rfl rfl (hn := rfl) (hst := rfl) (hw := Nat.le_of_ble_eq_true rfl) (hR := ⟨⟨rfl, rfl⟩, Nat.le_of_ble_eq_true rfl, Nat.le_of_ble_eq_true rfl⟩) (hnc := ⟨Nat.zero_le _, Nat.zero_le _⟩) (fun r_3 y_3 h_3 => ?_)
  obtain ⟨e_3, ey_3⟩ := h_3
  obtain rfl := ey_3.symm
  obtain rfl : r_3 = 0 := by rw [e_3]; exact if_pos hbat
  exact rm_thrS (As := [.int 0]) (rest := []) hc hX dX8_press_20 (x_needState hI x hfl) ms_X8_69 (hn := rfl) (hst := rfl) (hw := Nat.le_of_ble_eq_true rfl) (hR := ⟨⟨rfl, rfl⟩, Nat.le_of_ble_eq_true rfl, Nat.le_of_ble_eq_true rfl⟩) (hnc := ⟨Nat.le_of_ble_eq_true rfl, Nat.le_of_ble_eq_true rfl⟩)

set_option maxHeartbeats 4000000 in
set_option maxRecDepth 100000 in
theorem x_again_1 {l : Launch} {D : va_G} {cy : Nat → ClassId} {ad : Ads} (hI : IJ ad) (x : Mem) (hfl : l.stackTraces = false) (p0 p1 : Int32) {nr : Nat} (hnr : x 0 5 = nI nr) (h0 : p0 < 0 ∨ nI nr ≤ p0) : Ctx l yX8_again cX8_again 3 (some .int) rmx_X8_again D cy ad [.ref (ad 8 9 0), .int p0, .int p1] x "java/lang/IndexOutOfBoundsException" := by
  refine rm_entryX hI (by decide) (Nat.le_of_ble_eq_true rfl) ?_
  intro p e s m args below meth c hc hX
  show RM _ _ _ _ _ _ _ _ _ _ _ _ _ _ _ _ _ [(0, .ref (ad 8 9 0)), (1, .int p0), (2, .int p1)] []
  refine rm_iload_n hc dX8_again_0 rfl rfl ?_
  refine rm_aload_n hc dX8_again_1 rfl rfl ?_
  refine rm_get hc dX8_again_2 fl_X8_10 dm_9 rfl rfl ?_
  refine rm_get hc dX8_again_5 fl_X8_77 (dm_0 (by omega)) rfl rfl ?_
  refine rm_geti hc dX8_again_8 fl_X8_81 (dm_6 (by omega)) rfl rfl (fun v_1 e_1 => ?_)
  obtain rfl : v_1 = nI nr := e_1.trans hnr
  exact rm_thrS (As := [.int p0, .int (nI (nr))]) (rest := []) hc hX dX8_again_11 (x_needIndex hI x hfl p0 (nI (nr)) h0) ms_X8_37 (hn := rfl) (hst := rfl) (hw := Nat.le_of_ble_eq_true rfl) (hR := ⟨⟨rfl, rfl⟩, Nat.le_of_ble_eq_true rfl, Nat.le_of_ble_eq_true rfl⟩) (hnc := ⟨Nat.le_of_ble_eq_true rfl, Nat.le_of_ble_eq_true rfl⟩)

set_option maxHeartbeats 4000000 in
set_option maxRecDepth 100000 in
theorem x_undo_1 {l : Launch} {D : va_G} {cy : Nat → ClassId} {ad : Ads} (hI : IJ ad) (x : Mem) (hfl : l.stackTraces = false) (hhl : x 8 1 = 0) : Ctx l yX8_undo cX8_undo 1 (some .int) rmx_X8_undo D cy ad [.ref (ad 8 9 0)] x "java/lang/IllegalStateException" := by
  refine rm_entryX hI (by decide) (Nat.le_of_ble_eq_true rfl) ?_
  intro p e s m args below meth c hc hX
  show RM _ _ _ _ _ _ _ _ _ _ _ _ _ _ _ _ _ [(0, .ref (ad 8 9 0))] []
  refine rm_aload_n hc dX8_undo_0 rfl rfl ?_
  refine rm_get hc dX8_undo_1 fl_X8_19 dm_9 rfl rfl ?_
  refine rm_geti hc dX8_undo_4 fl_X8_161 dm_10 rfl rfl (fun v_1 e_1 => ?_)
  obtain rfl : v_1 = 0 := e_1.trans hhl
  refine rm_if_le (tgt := 14) hc dX8_undo_7 (by decide) (fun _ => ?_) (fun h => absurd (by decide) h)
  refine rm_iconst (v := 0) hc dX8_undo_14 (by decide) ?_
  exact rm_thrS (As := [.int 0]) (rest := []) hc hX dX8_undo_15 (x_needState hI x hfl) ms_X8_69 (hn := rfl) (hst := rfl) (hw := Nat.le_of_ble_eq_true rfl) (hR := ⟨⟨rfl, rfl⟩, Nat.le_of_ble_eq_true rfl, Nat.le_of_ble_eq_true rfl⟩) (hnc := ⟨Nat.le_of_ble_eq_true rfl, Nat.le_of_ble_eq_true rfl⟩)
