theorem ckx_221 : Cond.classLink RX8 221 "java/lang/IndexOutOfBoundsException" ∈ TB ∧ Cond.initialized "java/lang/IndexOutOfBoundsException" ∈ TB := by decide +kernel
theorem ckx_224 : Cond.classLink RX8 224 "java/lang/IllegalArgumentException" ∈ TB ∧ Cond.initialized "java/lang/IllegalArgumentException" ∈ TB := by decide +kernel
theorem ckx_227 : Cond.classLink RX8 227 "java/lang/IllegalStateException" ∈ TB ∧ Cond.initialized "java/lang/IllegalStateException" ∈ TB := by decide +kernel
theorem atx_221 : ∀ w ∈ vx_at0 RX8 223 "java/lang/IndexOutOfBoundsException" xnI, w ∈ TB ∨ w ∈ badL := by decide +kernel
theorem atx_224 : ∀ w ∈ vx_at0 RX8 226 "java/lang/IllegalArgumentException" xnI, w ∈ TB ∨ w ∈ badL := by decide +kernel
theorem atx_227 : ∀ w ∈ vx_at0 RX8 229 "java/lang/IllegalStateException" xnI, w ∈ TB ∨ w ∈ badL := by decide +kernel
theorem gdx_221 : ∀ w ∈ Cond.classLink RX8 221 "java/lang/IndexOutOfBoundsException" :: Cond.initialized "java/lang/IndexOutOfBoundsException" :: vx_at0 RX8 223 "java/lang/IndexOutOfBoundsException" xnI, vx_ot w = true := by decide +kernel
theorem gdx_224 : ∀ w ∈ Cond.classLink RX8 224 "java/lang/IllegalArgumentException" :: Cond.initialized "java/lang/IllegalArgumentException" :: vx_at0 RX8 226 "java/lang/IllegalArgumentException" xnI, vx_ot w = true := by decide +kernel
theorem gdx_227 : ∀ w ∈ Cond.classLink RX8 227 "java/lang/IllegalStateException" :: Cond.initialized "java/lang/IllegalStateException" :: vx_at0 RX8 229 "java/lang/IllegalStateException" xnI, vx_ot w = true := by decide +kernel
abbrev rmx_X8_needIndex : Room := { frames := 6, cells := 1, slots := 6, locals := 90 }

abbrev rmx_X8_needRange : Room := { frames := 7, cells := 1, slots := 6, locals := 110 }

abbrev rmx_X8_needArgument : Room := { frames := 6, cells := 1, slots := 6, locals := 90 }

abbrev rmx_X8_needState : Room := { frames := 6, cells := 1, slots := 6, locals := 90 }

abbrev rmx_X8_make : Room := { frames := 8, cells := 1, slots := 6, locals := 132 }

abbrev rmx_X8_battery : Room := { frames := 8, cells := 1, slots := 6, locals := 132 }

abbrev rmx_X8_press : Room := { frames := 8, cells := 1, slots := 6, locals := 132 }

abbrev rmx_X8_again : Room := { frames := 8, cells := 1, slots := 6, locals := 132 }

abbrev rmx_X8_learn : Room := { frames := 7, cells := 1, slots := 6, locals := 111 }

abbrev rmx_X8_forget : Room := { frames := 7, cells := 1, slots := 6, locals := 111 }

abbrev rmx_X8_shut : Room := { frames := 7, cells := 1, slots := 6, locals := 111 }

abbrev rmx_X8_unlock : Room := { frames := 7, cells := 1, slots := 6, locals := 111 }

abbrev rmx_X8_set : Room := { frames := 8, cells := 1, slots := 6, locals := 132 }

abbrev rmx_X8_append : Room := { frames := 8, cells := 1, slots := 6, locals := 132 }

abbrev rmx_X8_play : Room := { frames := 7, cells := 1, slots := 6, locals := 143 }

abbrev rmx_X8_undo : Room := { frames := 7, cells := 1, slots := 6, locals := 110 }

abbrev rmx_X8_fob : Room := { frames := 8, cells := 1, slots := 6, locals := 132 }

abbrev rmx_X8_slot : Room := { frames := 8, cells := 1, slots := 6, locals := 132 }

abbrev rmx_X8_door : Room := { frames := 8, cells := 1, slots := 6, locals := 132 }

abbrev rmx_X8_air : Room := { frames := 7, cells := 1, slots := 6, locals := 110 }

abbrev rmx_X8_count : Room := { frames := 8, cells := 1, slots := 6, locals := 132 }

abbrev rmx_X8_setting : Room := { frames := 7, cells := 1, slots := 6, locals := 111 }

abbrev rmx_X8_ifHeard : Room := { frames := 8, cells := 1, slots := 6, locals := 132 }

abbrev rmx_X8_opensIn : Room := { frames := 7, cells := 1, slots := 6, locals := 111 }

abbrev rmx_X8_unheard : Room := { frames := 7, cells := 1, slots := 6, locals := 119 }

abbrev rmx_X8_useful : Room := { frames := 7, cells := 1, slots := 6, locals := 116 }

set_option maxHeartbeats 4000000 in
set_option maxRecDepth 100000 in
theorem x_needIndex {l : Launch} {D : va_G} {cy : Nat → ClassId} {ad : Ads} (hI : IJ ad) (x : Mem) (hfl : l.stackTraces = false) (a b : Int32) (h0 : a < 0 ∨ b ≤ a) : Ctx l yX8_needIndex cX8_needIndex 2 none rmx_X8_needIndex D cy ad [.int a, .int b] x "java/lang/IndexOutOfBoundsException" := by
  refine rm_entryX hI (by decide) (Nat.le_of_ble_eq_true rfl) ?_
  intro p e s m args below meth c hc hX
  show RM _ _ _ _ _ _ _ _ _ _ _ _ _ _ _ _ _ [(0, .int a), (1, .int b)] []
  refine rm_iload_n hc dX8_needIndex_0 rfl rfl ?_
  refine rm_if_lt (tgt := 9) hc dX8_needIndex_1 (by decide) (fun c_1 => ?_) (fun c_1 => ?_)
  · --T
    exact rm_throw0 (own := RX8) (ik := 221) (ic := 223) hc hX hfl (by decide +kernel) ckx_221 atx_221 gdx_221 dX8_needIndex_9 dX8_needIndex_12 dX8_needIndex_13 dX8_needIndex_16 (Nat.le_of_ble_eq_true rfl) (Nat.le_of_ble_eq_true rfl) (Nat.le_of_ble_eq_true rfl) (Nat.le_of_ble_eq_true rfl)
  · --F
    refine rm_iload_n hc dX8_needIndex_4 rfl rfl ?_
    refine rm_iload_n hc dX8_needIndex_5 rfl rfl ?_
    refine rm_icmp_lt (tgt := 17) hc dX8_needIndex_6 (by decide) (fun h9 => absurd h9 (Int32.not_lt.mpr (h0.resolve_left c_1))) (fun _ => ?_)
    exact rm_throw0 (own := RX8) (ik := 221) (ic := 223) hc hX hfl (by decide +kernel) ckx_221 atx_221 gdx_221 dX8_needIndex_9 dX8_needIndex_12 dX8_needIndex_13 dX8_needIndex_16 (Nat.le_of_ble_eq_true rfl) (Nat.le_of_ble_eq_true rfl) (Nat.le_of_ble_eq_true rfl) (Nat.le_of_ble_eq_true rfl)

set_option maxHeartbeats 4000000 in
set_option maxRecDepth 100000 in
theorem x_needArgument {l : Launch} {D : va_G} {cy : Nat → ClassId} {ad : Ads} (hI : IJ ad) (x : Mem) (hfl : l.stackTraces = false)  : Ctx l yX8_needArgument cX8_needArgument 1 none rmx_X8_needArgument D cy ad [.int 0] x "java/lang/IllegalArgumentException" := by
  refine rm_entryX hI (by decide) (Nat.le_of_ble_eq_true rfl) ?_
  intro p e s m args below meth c hc hX
  show RM _ _ _ _ _ _ _ _ _ _ _ _ _ _ _ _ _ [(0, .int 0)] []
  refine rm_iload_n hc dX8_needArgument_0 rfl rfl ?_
  refine rm_if_ne (tgt := 12) hc dX8_needArgument_1 (by decide) (fun h => absurd h (by decide)) (fun _ => ?_)
  exact rm_throw0 (own := RX8) (ik := 224) (ic := 226) hc hX hfl (by decide +kernel) ckx_224 atx_224 gdx_224 dX8_needArgument_4 dX8_needArgument_7 dX8_needArgument_8 dX8_needArgument_11 (Nat.le_of_ble_eq_true rfl) (Nat.le_of_ble_eq_true rfl) (Nat.le_of_ble_eq_true rfl) (Nat.le_of_ble_eq_true rfl)

set_option maxHeartbeats 4000000 in
set_option maxRecDepth 100000 in
theorem x_needState {l : Launch} {D : va_G} {cy : Nat → ClassId} {ad : Ads} (hI : IJ ad) (x : Mem) (hfl : l.stackTraces = false)  : Ctx l yX8_needState cX8_needState 1 none rmx_X8_needState D cy ad [.int 0] x "java/lang/IllegalStateException" := by
  refine rm_entryX hI (by decide) (Nat.le_of_ble_eq_true rfl) ?_
  intro p e s m args below meth c hc hX
  show RM _ _ _ _ _ _ _ _ _ _ _ _ _ _ _ _ _ [(0, .int 0)] []
  refine rm_iload_n hc dX8_needState_0 rfl rfl ?_
  refine rm_if_ne (tgt := 12) hc dX8_needState_1 (by decide) (fun h => absurd h (by decide)) (fun _ => ?_)
  exact rm_throw0 (own := RX8) (ik := 227) (ic := 229) hc hX hfl (by decide +kernel) ckx_227 atx_227 gdx_227 dX8_needState_4 dX8_needState_7 dX8_needState_8 dX8_needState_11 (Nat.le_of_ble_eq_true rfl) (Nat.le_of_ble_eq_true rfl) (Nat.le_of_ble_eq_true rfl) (Nat.le_of_ble_eq_true rfl)

set_option maxHeartbeats 4000000 in
set_option maxRecDepth 100000 in
theorem x_needRange {l : Launch} {D : va_G} {cy : Nat → ClassId} {ad : Ads} (hI : IJ ad) (x : Mem) (hfl : l.stackTraces = false) (a lo hi2 : Int32) (h0 : a < lo ∨ hi2 < a) : Ctx l yX8_needRange cX8_needRange 3 none rmx_X8_needRange D cy ad [.int a, .int lo, .int hi2] x "java/lang/IllegalArgumentException" := by
  refine rm_entryX hI (by decide) (Nat.le_of_ble_eq_true rfl) ?_
  intro p e s m args below meth c hc hX
  show RM _ _ _ _ _ _ _ _ _ _ _ _ _ _ _ _ _ [(0, .int a), (1, .int lo), (2, .int hi2)] []
  refine rm_iload_n hc dX8_needRange_0 rfl rfl ?_
  refine rm_iload_n hc dX8_needRange_1 rfl rfl ?_
  refine rm_icmp_lt (tgt := 14) hc dX8_needRange_2 (by decide) (fun c_1 => ?_) (fun c_1 => ?_)
  · --T
    refine rm_iconst (v := 0) hc dX8_needRange_14 (by decide) ?_
    exact rm_thrS (As := [.int 0]) (rest := []) hc hX dX8_needRange_15 (x_needArgument hI x hfl) ms_X8_151 (hn := rfl) (hst := rfl) (hw := Nat.le_of_ble_eq_true rfl) (hR := ⟨⟨rfl, rfl⟩, Nat.le_of_ble_eq_true rfl, Nat.le_of_ble_eq_true rfl⟩) (hnc := ⟨Nat.le_of_ble_eq_true rfl, Nat.le_of_ble_eq_true rfl⟩)
  · --F
    refine rm_iload_n hc dX8_needRange_5 rfl rfl ?_
    refine rm_iload_n hc dX8_needRange_6 rfl rfl ?_
    refine rm_icmp_gt (tgt := 14) hc dX8_needRange_7 (by decide) (fun _ => ?_) (fun h9 => absurd (h0.resolve_left c_1) h9)
    refine rm_iconst (v := 0) hc dX8_needRange_14 (by decide) ?_
    exact rm_thrS (As := [.int 0]) (rest := []) hc hX dX8_needRange_15 (x_needArgument hI x hfl) ms_X8_151 (hn := rfl) (hst := rfl) (hw := Nat.le_of_ble_eq_true rfl) (hR := ⟨⟨rfl, rfl⟩, Nat.le_of_ble_eq_true rfl, Nat.le_of_ble_eq_true rfl⟩) (hnc := ⟨Nat.le_of_ble_eq_true rfl, Nat.le_of_ble_eq_true rfl⟩)

set_option maxHeartbeats 4000000 in
set_option maxRecDepth 100000 in
theorem x_make_1 {l : Launch} {D : va_G} {cy : Nat → ClassId} {ad : Ads} (hI : IJ ad) (x : Mem) (hfl : l.stackTraces = false) (p0 p1 p2 : Int32) (h0 : p0 < 0 ∨ 4 ≤ p0) : Ctx l yX8_make cX8_make 6 (some .int) rmx_X8_make D cy ad [.ref (ad 8 9 0), .int p0, .int p1, .int p2] x "java/lang/IndexOutOfBoundsException" := by
  refine rm_entryX hI (by decide) (Nat.le_of_ble_eq_true rfl) ?_
  intro p e s m args below meth c hc hX
  show RM _ _ _ _ _ _ _ _ _ _ _ _ _ _ _ _ _ [(0, .ref (ad 8 9 0)), (1, .int p0), (2, .int p1), (3, .int p2)] []
  refine rm_iload_n hc dX8_make_0 rfl rfl ?_
  refine rm_iconst (v := 4) hc dX8_make_1 (by decide) ?_
  exact rm_thrS (As := [.int p0, .int 4]) (rest := []) hc hX dX8_make_2 (x_needIndex hI x hfl p0 4 h0) ms_X8_37 (hn := rfl) (hst := rfl) (hw := Nat.le_of_ble_eq_true rfl) (hR := ⟨⟨rfl, rfl⟩, Nat.le_of_ble_eq_true rfl, Nat.le_of_ble_eq_true rfl⟩) (hnc := ⟨Nat.le_of_ble_eq_true rfl, Nat.le_of_ble_eq_true rfl⟩)

set_option maxHeartbeats 4000000 in
set_option maxRecDepth 100000 in
theorem x_make_2 {l : Launch} {D : va_G} {cy : Nat → ClassId} {ad : Ads} (hI : IJ ad) (x : Mem) (hfl : l.stackTraces = false) {j : Nat} (hj : j < 4) (p1 p2 : Int32) (h0 : p1 < 0 ∨ 9999 < p1) : Ctx l yX8_make cX8_make 6 (some .int) rmx_X8_make D cy ad [.ref (ad 8 9 0), .int (nI (j)), .int p1, .int p2] x "java/lang/IllegalArgumentException" := by
  refine rm_entryX hI (by decide) (Nat.le_of_ble_eq_true rfl) ?_
  intro p e s m args below meth c hc hX
  show RM _ _ _ _ _ _ _ _ _ _ _ _ _ _ _ _ _ [(0, .ref (ad 8 9 0)), (1, .int (nI (j))), (2, .int p1), (3, .int p2)] []
  refine rm_iload_n hc dX8_make_0 rfl rfl ?_
  refine rm_iconst (v := 4) hc dX8_make_1 (by decide) ?_
  refine rm_callvS (As := [.int (nI (j)), .int 4]) (rest := []) hc dX8_make_2 (c_X8_needIndex hI x (nI (j)) 4 (nI_pos (n := j) (by omega)) (nI_lt (a := j) (b := 4) (by omega) (by omega))) ms_X8_37 (hn := rfl) (hst := rfl) (hw := Nat.le_of_ble_eq_true rfl) (hR := ⟨⟨rfl, rfl⟩, Nat.le_of_ble_eq_true rfl, Nat.le_of_ble_eq_true rfl⟩) (hnc := ⟨Nat.zero_le _, Nat.zero_le _⟩) (fun y_1 h_1 => ?_)
  obtain rfl := h_1.symm
  refine rm_iload_n hc dX8_make_5 rfl rfl ?_
  refine rm_iconst (v := 0) hc dX8_make_6 (by decide) ?_
  refine rm_sipush (v := 9999) hc dX8_make_7 (by decide) ?_
  exact rm_thrS (As := [.int p1, .int 0, .int 9999]) (rest := []) hc hX dX8_make_10 (x_needRange hI x hfl p1 0 9999 h0) ms_X8_41 (hn := rfl) (hst := rfl) (hw := Nat.le_of_ble_eq_true rfl) (hR := ⟨⟨rfl, rfl⟩, Nat.le_of_ble_eq_true rfl, Nat.le_of_ble_eq_true rfl⟩) (hnc := ⟨Nat.le_of_ble_eq_true rfl, Nat.le_of_ble_eq_true rfl⟩)

set_option maxHeartbeats 4000000 in
set_option maxRecDepth 100000 in
theorem x_make_3 {l : Launch} {D : va_G} {cy : Nat → ClassId} {ad : Ads} (hI : IJ ad) (x : Mem) (hfl : l.stackTraces = false) {j : Nat} (hj : j < 4) (p1 p2 : Int32) (hs1 : ¬ p1 < 0) (hs2 : ¬ 9999 < p1) (h0 : p2 < 0 ∨ 9999 < p2) : Ctx l yX8_make cX8_make 6 (some .int) rmx_X8_make D cy ad [.ref (ad 8 9 0), .int (nI (j)), .int p1, .int p2] x "java/lang/IllegalArgumentException" := by
  refine rm_entryX hI (by decide) (Nat.le_of_ble_eq_true rfl) ?_
  intro p e s m args below meth c hc hX
  show RM _ _ _ _ _ _ _ _ _ _ _ _ _ _ _ _ _ [(0, .ref (ad 8 9 0)), (1, .int (nI (j))), (2, .int p1), (3, .int p2)] []
  refine rm_iload_n hc dX8_make_0 rfl rfl ?_
  refine rm_iconst (v := 4) hc dX8_make_1 (by decide) ?_
  refine rm_callvS (As := [.int (nI (j)), .int 4]) (rest := []) hc dX8_make_2 (c_X8_needIndex hI x (nI (j)) 4 (nI_pos (n := j) (by omega)) (nI_lt (a := j) (b := 4) (by omega) (by omega))) ms_X8_37 (hn := rfl) (hst := rfl) (hw := Nat.le_of_ble_eq_true rfl) (hR := ⟨⟨rfl, rfl⟩, Nat.le_of_ble_eq_true rfl, Nat.le_of_ble_eq_true rfl⟩) (hnc := ⟨Nat.zero_le _, Nat.zero_le _⟩) (fun y_1 h_1 => ?_)
  obtain rfl := h_1.symm
  refine rm_iload_n hc dX8_make_5 rfl rfl ?_
  refine rm_iconst (v := 0) hc dX8_make_6 (by decide) ?_
  refine rm_sipush (v := 9999) hc dX8_make_7 (by decide) ?_
  refine rm_callvS (As := [.int p1, .int 0, .int 9999]) (rest := []) hc dX8_make_10 (c_X8_needRange hI x p1 0 9999 hs1 hs2) ms_X8_41 (hn := rfl) (hst := rfl) (hw := Nat.le_of_ble_eq_true rfl) (hR := ⟨⟨rfl, rfl⟩, Nat.le_of_ble_eq_true rfl, Nat.le_of_ble_eq_true rfl⟩) (hnc := ⟨Nat.zero_le _, Nat.zero_le _⟩) (fun y_2 h_2 => ?_)
  obtain rfl := h_2.symm
  refine rm_iload_n hc dX8_make_13 rfl rfl ?_
  refine rm_iconst (v := 0) hc dX8_make_14 (by decide) ?_
  refine rm_sipush (v := 9999) hc dX8_make_15 (by decide) ?_
  exact rm_thrS (As := [.int p2, .int 0, .int 9999]) (rest := []) hc hX dX8_make_18 (x_needRange hI x hfl p2 0 9999 h0) ms_X8_41 (hn := rfl) (hst := rfl) (hw := Nat.le_of_ble_eq_true rfl) (hR := ⟨⟨rfl, rfl⟩, Nat.le_of_ble_eq_true rfl, Nat.le_of_ble_eq_true rfl⟩) (hnc := ⟨Nat.le_of_ble_eq_true rfl, Nat.le_of_ble_eq_true rfl⟩)

set_option maxHeartbeats 4000000 in
set_option maxRecDepth 100000 in
theorem x_battery_1 {l : Launch} {D : va_G} {cy : Nat → ClassId} {ad : Ads} (hI : IJ ad) (x : Mem) (hfl : l.stackTraces = false) (p0 p1 : Int32) (h0 : p0 < 0 ∨ 4 ≤ p0) : Ctx l yX8_battery cX8_battery 5 (some .int) rmx_X8_battery D cy ad [.ref (ad 8 9 0), .int p0, .int p1] x "java/lang/IndexOutOfBoundsException" := by
  refine rm_entryX hI (by decide) (Nat.le_of_ble_eq_true rfl) ?_
  intro p e s m args below meth c hc hX
  show RM _ _ _ _ _ _ _ _ _ _ _ _ _ _ _ _ _ [(0, .ref (ad 8 9 0)), (1, .int p0), (2, .int p1)] []
  refine rm_iload_n hc dX8_battery_0 rfl rfl ?_
  refine rm_iconst (v := 4) hc dX8_battery_1 (by decide) ?_
  exact rm_thrS (As := [.int p0, .int 4]) (rest := []) hc hX dX8_battery_2 (x_needIndex hI x hfl p0 4 h0) ms_X8_37 (hn := rfl) (hst := rfl) (hw := Nat.le_of_ble_eq_true rfl) (hR := ⟨⟨rfl, rfl⟩, Nat.le_of_ble_eq_true rfl, Nat.le_of_ble_eq_true rfl⟩) (hnc := ⟨Nat.le_of_ble_eq_true rfl, Nat.le_of_ble_eq_true rfl⟩)

set_option maxHeartbeats 4000000 in
set_option maxRecDepth 100000 in
theorem x_battery_2 {l : Launch} {D : va_G} {cy : Nat → ClassId} {ad : Ads} (hI : IJ ad) (x : Mem) (hfl : l.stackTraces = false) {j : Nat} (hj : j < 4) (p1 : Int32) (h0 : p1 < 0 ∨ 999 < p1) : Ctx l yX8_battery cX8_battery 5 (some .int) rmx_X8_battery D cy ad [.ref (ad 8 9 0), .int (nI (j)), .int p1] x "java/lang/IllegalArgumentException" := by
  refine rm_entryX hI (by decide) (Nat.le_of_ble_eq_true rfl) ?_
  intro p e s m args below meth c hc hX
  show RM _ _ _ _ _ _ _ _ _ _ _ _ _ _ _ _ _ [(0, .ref (ad 8 9 0)), (1, .int (nI (j))), (2, .int p1)] []
  refine rm_iload_n hc dX8_battery_0 rfl rfl ?_
  refine rm_iconst (v := 4) hc dX8_battery_1 (by decide) ?_
  refine rm_callvS (As := [.int (nI (j)), .int 4]) (rest := []) hc dX8_battery_2 (c_X8_needIndex hI x (nI (j)) 4 (nI_pos (n := j) (by omega)) (nI_lt (a := j) (b := 4) (by omega) (by omega))) ms_X8_37 (hn := rfl) (hst := rfl) (hw := Nat.le_of_ble_eq_true rfl) (hR := ⟨⟨rfl, rfl⟩, Nat.le_of_ble_eq_true rfl, Nat.le_of_ble_eq_true rfl⟩) (hnc := ⟨Nat.zero_le _, Nat.zero_le _⟩) (fun y_1 h_1 => ?_)
  obtain rfl := h_1.symm
  refine rm_iload_n hc dX8_battery_5 rfl rfl ?_
  refine rm_iconst (v := 0) hc dX8_battery_6 (by decide) ?_
  refine rm_sipush (v := 999) hc dX8_battery_7 (by decide) ?_
  exact rm_thrS (As := [.int p1, .int 0, .int 999]) (rest := []) hc hX dX8_battery_10 (x_needRange hI x hfl p1 0 999 h0) ms_X8_41 (hn := rfl) (hst := rfl) (hw := Nat.le_of_ble_eq_true rfl) (hR := ⟨⟨rfl, rfl⟩, Nat.le_of_ble_eq_true rfl, Nat.le_of_ble_eq_true rfl⟩) (hnc := ⟨Nat.le_of_ble_eq_true rfl, Nat.le_of_ble_eq_true rfl⟩)

set_option maxHeartbeats 4000000 in
set_option maxRecDepth 100000 in
theorem x_press_1 {l : Launch} {D : va_G} {cy : Nat → ClassId} {ad : Ads} (hI : IJ ad) (x : Mem) (hfl : l.stackTraces = false) (p0 p1 : Int32) (h0 : p0 < 0 ∨ 4 ≤ p0) : Ctx l yX8_press cX8_press 3 (some .int) rmx_X8_press D cy ad [.ref (ad 8 9 0), .int p0, .int p1] x "java/lang/IndexOutOfBoundsException" := by
  refine rm_entryX hI (by decide) (Nat.le_of_ble_eq_true rfl) ?_
  intro p e s m args below meth c hc hX
  show RM _ _ _ _ _ _ _ _ _ _ _ _ _ _ _ _ _ [(0, .ref (ad 8 9 0)), (1, .int p0), (2, .int p1)] []
  refine rm_iload_n hc dX8_press_0 rfl rfl ?_
  refine rm_iconst (v := 4) hc dX8_press_1 (by decide) ?_
  exact rm_thrS (As := [.int p0, .int 4]) (rest := []) hc hX dX8_press_2 (x_needIndex hI x hfl p0 4 h0) ms_X8_37 (hn := rfl) (hst := rfl) (hw := Nat.le_of_ble_eq_true rfl) (hR := ⟨⟨rfl, rfl⟩, Nat.le_of_ble_eq_true rfl, Nat.le_of_ble_eq_true rfl⟩) (hnc := ⟨Nat.le_of_ble_eq_true rfl, Nat.le_of_ble_eq_true rfl⟩)

set_option maxHeartbeats 4000000 in
set_option maxRecDepth 100000 in
theorem x_press_2 {l : Launch} {D : va_G} {cy : Nat → ClassId} {ad : Ads} (hI : IJ ad) (x : Mem) (hfl : l.stackTraces = false) {j : Nat} (hj : j < 4) (p1 : Int32) (h0 : p1 < 0 ∨ 7 < p1) : Ctx l yX8_press cX8_press 3 (some .int) rmx_X8_press D cy ad [.ref (ad 8 9 0), .int (nI (j)), .int p1] x "java/lang/IllegalArgumentException" := by
  refine rm_entryX hI (by decide) (Nat.le_of_ble_eq_true rfl) ?_
  intro p e s m args below meth c hc hX
  show RM _ _ _ _ _ _ _ _ _ _ _ _ _ _ _ _ _ [(0, .ref (ad 8 9 0)), (1, .int (nI (j))), (2, .int p1)] []
  refine rm_iload_n hc dX8_press_0 rfl rfl ?_
  refine rm_iconst (v := 4) hc dX8_press_1 (by decide) ?_
  refine rm_callvS (As := [.int (nI (j)), .int 4]) (rest := []) hc dX8_press_2 (c_X8_needIndex hI x (nI (j)) 4 (nI_pos (n := j) (by omega)) (nI_lt (a := j) (b := 4) (by omega) (by omega))) ms_X8_37 (hn := rfl) (hst := rfl) (hw := Nat.le_of_ble_eq_true rfl) (hR := ⟨⟨rfl, rfl⟩, Nat.le_of_ble_eq_true rfl, Nat.le_of_ble_eq_true rfl⟩) (hnc := ⟨Nat.zero_le _, Nat.zero_le _⟩) (fun y_1 h_1 => ?_)
  obtain rfl := h_1.symm
  refine rm_iload_n hc dX8_press_5 rfl rfl ?_
  refine rm_iconst (v := 0) hc dX8_press_6 (by decide) ?_
  refine rm_bipush (v := 7) hc dX8_press_7 (by decide) ?_
  exact rm_thrS (As := [.int p1, .int 0, .int 7]) (rest := []) hc hX dX8_press_9 (x_needRange hI x hfl p1 0 7 h0) ms_X8_41 (hn := rfl) (hst := rfl) (hw := Nat.le_of_ble_eq_true rfl) (hR := ⟨⟨rfl, rfl⟩, Nat.le_of_ble_eq_true rfl, Nat.le_of_ble_eq_true rfl⟩) (hnc := ⟨Nat.le_of_ble_eq_true rfl, Nat.le_of_ble_eq_true rfl⟩)

set_option maxHeartbeats 4000000 in
set_option maxRecDepth 100000 in
theorem x_press_3 {l : Launch} {D : va_G} {cy : Nat → ClassId} {ad : Ads} (hI : IJ ad) (x : Mem) (hfl : l.stackTraces = false) {j : Nat} (hj : j < 4) (p1 : Int32) (hs1 : ¬ p1 < 0) (hs2 : ¬ 7 < p1) (hbat : x 0 (16 + 4 * j) ≤ 0) : Ctx l yX8_press cX8_press 3 (some .int) rmx_X8_press D cy ad [.ref (ad 8 9 0), .int (nI (j)), .int p1] x "java/lang/IllegalStateException" := by
  refine rm_entryX hI (by decide) (Nat.le_of_ble_eq_true rfl) ?_
  intro p e s m args below meth c hc hX
  show RM _ _ _ _ _ _ _ _ _ _ _ _ _ _ _ _ _ [(0, .ref (ad 8 9 0)), (1, .int (nI (j))), (2, .int p1)] []
  refine rm_iload_n hc dX8_press_0 rfl rfl ?_
  refine rm_iconst (v := 4) hc dX8_press_1 (by decide) ?_
  refine rm_callvS (As := [.int (nI (j)), .int 4]) (rest := []) hc dX8_press_2 (c_X8_needIndex hI x (nI (j)) 4 (nI_pos (n := j) (by omega)) (nI_lt (a := j) (b := 4) (by omega) (by omega))) ms_X8_37 (hn := rfl) (hst := rfl) (hw := Nat.le_of_ble_eq_true rfl) (hR := ⟨⟨rfl, rfl⟩, Nat.le_of_ble_eq_true rfl, Nat.le_of_ble_eq_true rfl⟩) (hnc := ⟨Nat.zero_le _, Nat.zero_le _⟩) (fun y_1 h_1 => ?_)
  obtain rfl := h_1.symm
  refine rm_iload_n hc dX8_press_5 rfl rfl ?_
  refine rm_iconst (v := 0) hc dX8_press_6 (by decide) ?_
  refine rm_bipush (v := 7) hc dX8_press_7 (by decide) ?_
  refine rm_callvS (As := [.int p1, .int 0, .int 7]) (rest := []) hc dX8_press_9 (c_X8_needRange hI x p1 0 7 hs1 hs2) ms_X8_41 (hn := rfl) (hst := rfl) (hw := Nat.le_of_ble_eq_true rfl) (hR := ⟨⟨rfl, rfl⟩, Nat.le_of_ble_eq_true rfl, Nat.le_of_ble_eq_true rfl⟩) (hnc := ⟨Nat.zero_le _, Nat.zero_le _⟩) (fun y_2 h_2 => ?_)
  obtain rfl := h_2.symm
  refine rm_aload_n hc dX8_press_12 rfl rfl ?_
  refine rm_get hc dX8_press_13 fl_X8_10 dm_9 rfl rfl ?_
  refine rm_iload_n hc dX8_press_16 rfl rfl ?_
  refine rm_calliV (As := [.int (nI (j))]) (rest := []) hc dX8_press_17 (c_X6_canPress hI x (k := 0) (j := j) (by omega) (by omega)) mv_X8_65 (dm_0 (by omega)) rfl rfl (hn := rfl) (hst := rfl) (hw := Nat.le_of_ble_eq_true rfl) (hR := ⟨⟨rfl, rfl⟩, Nat.le_of_ble_eq_true rfl, Nat.le_of_ble_eq_true rfl⟩) (hnc := ⟨Nat.zero_le _, Nat.zero_le _⟩) (fun r_3 y_3 h_3 => ?_)
  obtain ⟨e_3, ey_3⟩ := h_3
  obtain rfl := ey_3.symm
  obtain rfl : r_3 = 0 := by rw [e_3]; exact if_pos hbat
  exact rm_thrS (As := [.int 0]) (rest := []) hc hX dX8_press_20 (x_needState hI x hfl) ms_X8_69 (hn := rfl) (hst := rfl) (hw := Nat.le_of_ble_eq_true rfl) (hR := ⟨⟨rfl, rfl⟩, Nat.le_of_ble_eq_true rfl, Nat.le_of_ble_eq_true rfl⟩) (hnc := ⟨Nat.le_of_ble_eq_true rfl, Nat.le_of_ble_eq_true rfl⟩)

set_option maxHeartbeats 4000000 in
set_option maxRecDepth 100000 in
theorem x_again_1 {l : Launch} {D : va_G} {cy : Nat → ClassId} {ad : Ads} (hI : IJ ad) (x : Mem) (hfl : l.stackTraces = false) (p0 p1 : Int32) {nr : Nat} (hnr : x 0 5 = nI nr) (h0 : p0 < 0 ∨ nI nr ≤ p0) : Ctx l yX8_again cX8_again 3 (some .int) rmx_X8_again D cy ad [.ref (ad 8 9 0), .int p0, .int p1] x "java/lang/IndexOutOfBoundsException" := by
  refine rm_entryX hI (by decide) (Nat.le_of_ble_eq_true rfl) ?_
  intro p e s m args below meth c hc hX
  show RM _ _ _ _ _ _ _ _ _ _ _ _ _ _ _ _ _ [(0, .ref (ad 8 9 0)), (1, .int p0), (2, .int p1)] []
  refine rm_iload_n hc dX8_again_0 rfl rfl ?_
  refine rm_aload_n hc dX8_again_1 rfl rfl ?_
  refine rm_get hc dX8_again_2 fl_X8_10 dm_9 rfl rfl ?_
  refine rm_get hc dX8_again_5 fl_X8_77 (dm_0 (by omega)) rfl rfl ?_
  refine rm_geti hc dX8_again_8 fl_X8_81 (dm_6 (by omega)) rfl rfl (fun v_1 e_1 => ?_)
  obtain rfl : v_1 = nI nr := e_1.trans hnr
  exact rm_thrS (As := [.int p0, .int (nI (nr))]) (rest := []) hc hX dX8_again_11 (x_needIndex hI x hfl p0 (nI (nr)) h0) ms_X8_37 (hn := rfl) (hst := rfl) (hw := Nat.le_of_ble_eq_true rfl) (hR := ⟨⟨rfl, rfl⟩, Nat.le_of_ble_eq_true rfl, Nat.le_of_ble_eq_true rfl⟩) (hnc := ⟨Nat.le_of_ble_eq_true rfl, Nat.le_of_ble_eq_true rfl⟩)

set_option maxHeartbeats 4000000 in
set_option maxRecDepth 100000 in
theorem x_again_2 {l : Launch} {D : va_G} {cy : Nat → ClassId} {ad : Ads} (hI : IJ ad) (x : Mem) (hfl : l.stackTraces = false) {ii nr : Nat} (hii : ii < nr) (hr8 : nr ≤ 8) (hnr : x 0 5 = nI nr) (p1 : Int32) (h0 : p1 < 0 ∨ 7 < p1) : Ctx l yX8_again cX8_again 3 (some .int) rmx_X8_again D cy ad [.ref (ad 8 9 0), .int (nI (ii)), .int p1] x "java/lang/IllegalArgumentException" := by
  refine rm_entryX hI (by decide) (Nat.le_of_ble_eq_true rfl) ?_
  intro p e s m args below meth c hc hX
  show RM _ _ _ _ _ _ _ _ _ _ _ _ _ _ _ _ _ [(0, .ref (ad 8 9 0)), (1, .int (nI (ii))), (2, .int p1)] []
  refine rm_iload_n hc dX8_again_0 rfl rfl ?_
  refine rm_aload_n hc dX8_again_1 rfl rfl ?_
  refine rm_get hc dX8_again_2 fl_X8_10 dm_9 rfl rfl ?_
  refine rm_get hc dX8_again_5 fl_X8_77 (dm_0 (by omega)) rfl rfl ?_
  refine rm_geti hc dX8_again_8 fl_X8_81 (dm_6 (by omega)) rfl rfl (fun v_1 e_1 => ?_)
  obtain rfl : v_1 = nI nr := e_1.trans hnr
  refine rm_callvS (As := [.int (nI (ii)), .int (nI (nr))]) (rest := []) hc dX8_again_11 (c_X8_needIndex hI x (nI (ii)) (nI (nr)) (nI_pos (n := ii) (by omega)) (nI_lt (a := ii) (b := nr) (by omega) (by omega))) ms_X8_37 (hn := rfl) (hst := rfl) (hw := Nat.le_of_ble_eq_true rfl) (hR := ⟨⟨rfl, rfl⟩, Nat.le_of_ble_eq_true rfl, Nat.le_of_ble_eq_true rfl⟩) (hnc := ⟨Nat.zero_le _, Nat.zero_le _⟩) (fun y_2 h_2 => ?_)
  obtain rfl := h_2.symm
  refine rm_iload_n hc dX8_again_14 rfl rfl ?_
  refine rm_iconst (v := 0) hc dX8_again_15 (by decide) ?_
  refine rm_bipush (v := 7) hc dX8_again_16 (by decide) ?_
  exact rm_thrS (As := [.int p1, .int 0, .int 7]) (rest := []) hc hX dX8_again_18 (x_needRange hI x hfl p1 0 7 h0) ms_X8_41 (hn := rfl) (hst := rfl) (hw := Nat.le_of_ble_eq_true rfl) (hR := ⟨⟨rfl, rfl⟩, Nat.le_of_ble_eq_true rfl, Nat.le_of_ble_eq_true rfl⟩) (hnc := ⟨Nat.le_of_ble_eq_true rfl, Nat.le_of_ble_eq_true rfl⟩)

set_option maxHeartbeats 4000000 in
set_option maxRecDepth 100000 in
theorem x_learn_1 {l : Launch} {D : va_G} {cy : Nat → ClassId} {ad : Ads} (hI : IJ ad) (x : Mem) (hfl : l.stackTraces = false) (p0 p1 p2 : Int32) (h0 : p0 < 0 ∨ 3 ≤ p0) : Ctx l yX8_learn cX8_learn 5 (some .int) rmx_X8_learn D cy ad [.ref (ad 8 9 0), .int p0, .int p1, .int p2] x "java/lang/IndexOutOfBoundsException" := by
  refine rm_entryX hI (by decide) (Nat.le_of_ble_eq_true rfl) ?_
  intro p e s m args below meth c hc hX
  show RM _ _ _ _ _ _ _ _ _ _ _ _ _ _ _ _ _ [(0, .ref (ad 8 9 0)), (1, .int p0), (2, .int p1), (3, .int p2)] []
  refine rm_iload_n hc dX8_learn_0 rfl rfl ?_
  refine rm_iconst (v := 3) hc dX8_learn_1 (by decide) ?_
  exact rm_thrS (As := [.int p0, .int 3]) (rest := []) hc hX dX8_learn_2 (x_needIndex hI x hfl p0 3 h0) ms_X8_37 (hn := rfl) (hst := rfl) (hw := Nat.le_of_ble_eq_true rfl) (hR := ⟨⟨rfl, rfl⟩, Nat.le_of_ble_eq_true rfl, Nat.le_of_ble_eq_true rfl⟩) (hnc := ⟨Nat.le_of_ble_eq_true rfl, Nat.le_of_ble_eq_true rfl⟩)

set_option maxHeartbeats 4000000 in
set_option maxRecDepth 100000 in
theorem x_learn_2 {l : Launch} {D : va_G} {cy : Nat → ClassId} {ad : Ads} (hI : IJ ad) (x : Mem) (hfl : l.stackTraces = false) {d : Nat} (hd3 : d < 3) (p1 p2 : Int32) (h0 : p1 < 0 ∨ 4 ≤ p1) : Ctx l yX8_learn cX8_learn 5 (some .int) rmx_X8_learn D cy ad [.ref (ad 8 9 0), .int (nI (d)), .int p1, .int p2] x "java/lang/IndexOutOfBoundsException" := by
  refine rm_entryX hI (by decide) (Nat.le_of_ble_eq_true rfl) ?_
  intro p e s m args below meth c hc hX
  show RM _ _ _ _ _ _ _ _ _ _ _ _ _ _ _ _ _ [(0, .ref (ad 8 9 0)), (1, .int (nI (d))), (2, .int p1), (3, .int p2)] []
  refine rm_iload_n hc dX8_learn_0 rfl rfl ?_
  refine rm_iconst (v := 3) hc dX8_learn_1 (by decide) ?_
  refine rm_callvS (As := [.int (nI (d)), .int 3]) (rest := []) hc dX8_learn_2 (c_X8_needIndex hI x (nI (d)) 3 (nI_pos (n := d) (by omega)) (nI_lt (a := d) (b := 3) (by omega) (by omega))) ms_X8_37 (hn := rfl) (hst := rfl) (hw := Nat.le_of_ble_eq_true rfl) (hR := ⟨⟨rfl, rfl⟩, Nat.le_of_ble_eq_true rfl, Nat.le_of_ble_eq_true rfl⟩) (hnc := ⟨Nat.zero_le _, Nat.zero_le _⟩) (fun y_1 h_1 => ?_)
  obtain rfl := h_1.symm
  refine rm_iload_n hc dX8_learn_5 rfl rfl ?_
  refine rm_iconst (v := 4) hc dX8_learn_6 (by decide) ?_
  exact rm_thrS (As := [.int p1, .int 4]) (rest := []) hc hX dX8_learn_7 (x_needIndex hI x hfl p1 4 h0) ms_X8_37 (hn := rfl) (hst := rfl) (hw := Nat.le_of_ble_eq_true rfl) (hR := ⟨⟨rfl, rfl⟩, Nat.le_of_ble_eq_true rfl, Nat.le_of_ble_eq_true rfl⟩) (hnc := ⟨Nat.le_of_ble_eq_true rfl, Nat.le_of_ble_eq_true rfl⟩)

set_option maxHeartbeats 4000000 in
set_option maxRecDepth 100000 in
theorem x_learn_3 {l : Launch} {D : va_G} {cy : Nat → ClassId} {ad : Ads} (hI : IJ ad) (x : Mem) (hfl : l.stackTraces = false) {d : Nat} (hd3 : d < 3) {s0 : Nat} (hs : s0 < 4) (p2 : Int32) (h0 : p2 < 0 ∨ 4 ≤ p2) : Ctx l yX8_learn cX8_learn 5 (some .int) rmx_X8_learn D cy ad [.ref (ad 8 9 0), .int (nI (d)), .int (nI (s0)), .int p2] x "java/lang/IndexOutOfBoundsException" := by
  refine rm_entryX hI (by decide) (Nat.le_of_ble_eq_true rfl) ?_
  intro p e s m args below meth c hc hX
  show RM _ _ _ _ _ _ _ _ _ _ _ _ _ _ _ _ _ [(0, .ref (ad 8 9 0)), (1, .int (nI (d))), (2, .int (nI (s0))), (3, .int p2)] []
  refine rm_iload_n hc dX8_learn_0 rfl rfl ?_
  refine rm_iconst (v := 3) hc dX8_learn_1 (by decide) ?_
  refine rm_callvS (As := [.int (nI (d)), .int 3]) (rest := []) hc dX8_learn_2 (c_X8_needIndex hI x (nI (d)) 3 (nI_pos (n := d) (by omega)) (nI_lt (a := d) (b := 3) (by omega) (by omega))) ms_X8_37 (hn := rfl) (hst := rfl) (hw := Nat.le_of_ble_eq_true rfl) (hR := ⟨⟨rfl, rfl⟩, Nat.le_of_ble_eq_true rfl, Nat.le_of_ble_eq_true rfl⟩) (hnc := ⟨Nat.zero_le _, Nat.zero_le _⟩) (fun y_1 h_1 => ?_)
  obtain rfl := h_1.symm
  refine rm_iload_n hc dX8_learn_5 rfl rfl ?_
  refine rm_iconst (v := 4) hc dX8_learn_6 (by decide) ?_
  refine rm_callvS (As := [.int (nI (s0)), .int 4]) (rest := []) hc dX8_learn_7 (c_X8_needIndex hI x (nI (s0)) 4 (nI_pos (n := s0) (by omega)) (nI_lt (a := s0) (b := 4) (by omega) (by omega))) ms_X8_37 (hn := rfl) (hst := rfl) (hw := Nat.le_of_ble_eq_true rfl) (hR := ⟨⟨rfl, rfl⟩, Nat.le_of_ble_eq_true rfl, Nat.le_of_ble_eq_true rfl⟩) (hnc := ⟨Nat.zero_le _, Nat.zero_le _⟩) (fun y_2 h_2 => ?_)
  obtain rfl := h_2.symm
  refine rm_iload_n hc dX8_learn_10 rfl rfl ?_
  refine rm_iconst (v := 4) hc dX8_learn_11 (by decide) ?_
  exact rm_thrS (As := [.int p2, .int 4]) (rest := []) hc hX dX8_learn_12 (x_needIndex hI x hfl p2 4 h0) ms_X8_37 (hn := rfl) (hst := rfl) (hw := Nat.le_of_ble_eq_true rfl) (hR := ⟨⟨rfl, rfl⟩, Nat.le_of_ble_eq_true rfl, Nat.le_of_ble_eq_true rfl⟩) (hnc := ⟨Nat.le_of_ble_eq_true rfl, Nat.le_of_ble_eq_true rfl⟩)

set_option maxHeartbeats 4000000 in
set_option maxRecDepth 100000 in
theorem x_forget_1 {l : Launch} {D : va_G} {cy : Nat → ClassId} {ad : Ads} (hI : IJ ad) (x : Mem) (hfl : l.stackTraces = false) (p0 p1 : Int32) (h0 : p0 < 0 ∨ 3 ≤ p0) : Ctx l yX8_forget cX8_forget 5 (some .int) rmx_X8_forget D cy ad [.ref (ad 8 9 0), .int p0, .int p1] x "java/lang/IndexOutOfBoundsException" := by
  refine rm_entryX hI (by decide) (Nat.le_of_ble_eq_true rfl) ?_
  intro p e s m args below meth c hc hX
  show RM _ _ _ _ _ _ _ _ _ _ _ _ _ _ _ _ _ [(0, .ref (ad 8 9 0)), (1, .int p0), (2, .int p1)] []
  refine rm_iload_n hc dX8_forget_0 rfl rfl ?_
  refine rm_iconst (v := 3) hc dX8_forget_1 (by decide) ?_
  exact rm_thrS (As := [.int p0, .int 3]) (rest := []) hc hX dX8_forget_2 (x_needIndex hI x hfl p0 3 h0) ms_X8_37 (hn := rfl) (hst := rfl) (hw := Nat.le_of_ble_eq_true rfl) (hR := ⟨⟨rfl, rfl⟩, Nat.le_of_ble_eq_true rfl, Nat.le_of_ble_eq_true rfl⟩) (hnc := ⟨Nat.le_of_ble_eq_true rfl, Nat.le_of_ble_eq_true rfl⟩)

set_option maxHeartbeats 4000000 in
set_option maxRecDepth 100000 in
theorem x_forget_2 {l : Launch} {D : va_G} {cy : Nat → ClassId} {ad : Ads} (hI : IJ ad) (x : Mem) (hfl : l.stackTraces = false) {d : Nat} (hd3 : d < 3) (p1 : Int32) (h0 : p1 < 0 ∨ 4 ≤ p1) : Ctx l yX8_forget cX8_forget 5 (some .int) rmx_X8_forget D cy ad [.ref (ad 8 9 0), .int (nI (d)), .int p1] x "java/lang/IndexOutOfBoundsException" := by
  refine rm_entryX hI (by decide) (Nat.le_of_ble_eq_true rfl) ?_
  intro p e s m args below meth c hc hX
  show RM _ _ _ _ _ _ _ _ _ _ _ _ _ _ _ _ _ [(0, .ref (ad 8 9 0)), (1, .int (nI (d))), (2, .int p1)] []
  refine rm_iload_n hc dX8_forget_0 rfl rfl ?_
  refine rm_iconst (v := 3) hc dX8_forget_1 (by decide) ?_
  refine rm_callvS (As := [.int (nI (d)), .int 3]) (rest := []) hc dX8_forget_2 (c_X8_needIndex hI x (nI (d)) 3 (nI_pos (n := d) (by omega)) (nI_lt (a := d) (b := 3) (by omega) (by omega))) ms_X8_37 (hn := rfl) (hst := rfl) (hw := Nat.le_of_ble_eq_true rfl) (hR := ⟨⟨rfl, rfl⟩, Nat.le_of_ble_eq_true rfl, Nat.le_of_ble_eq_true rfl⟩) (hnc := ⟨Nat.zero_le _, Nat.zero_le _⟩) (fun y_1 h_1 => ?_)
  obtain rfl := h_1.symm
  refine rm_iload_n hc dX8_forget_5 rfl rfl ?_
  refine rm_iconst (v := 4) hc dX8_forget_6 (by decide) ?_
  exact rm_thrS (As := [.int p1, .int 4]) (rest := []) hc hX dX8_forget_7 (x_needIndex hI x hfl p1 4 h0) ms_X8_37 (hn := rfl) (hst := rfl) (hw := Nat.le_of_ble_eq_true rfl) (hR := ⟨⟨rfl, rfl⟩, Nat.le_of_ble_eq_true rfl, Nat.le_of_ble_eq_true rfl⟩) (hnc := ⟨Nat.le_of_ble_eq_true rfl, Nat.le_of_ble_eq_true rfl⟩)

set_option maxHeartbeats 4000000 in
set_option maxRecDepth 100000 in
theorem x_shut_1 {l : Launch} {D : va_G} {cy : Nat → ClassId} {ad : Ads} (hI : IJ ad) (x : Mem) (hfl : l.stackTraces = false) (p0 : Int32) (h0 : p0 < 0 ∨ 3 ≤ p0) : Ctx l yX8_shut cX8_shut 4 (some .int) rmx_X8_shut D cy ad [.ref (ad 8 9 0), .int p0] x "java/lang/IndexOutOfBoundsException" := by
  refine rm_entryX hI (by decide) (Nat.le_of_ble_eq_true rfl) ?_
  intro p e s m args below meth c hc hX
  show RM _ _ _ _ _ _ _ _ _ _ _ _ _ _ _ _ _ [(0, .ref (ad 8 9 0)), (1, .int p0)] []
  refine rm_iload_n hc dX8_shut_0 rfl rfl ?_
  refine rm_iconst (v := 3) hc dX8_shut_1 (by decide) ?_
  exact rm_thrS (As := [.int p0, .int 3]) (rest := []) hc hX dX8_shut_2 (x_needIndex hI x hfl p0 3 h0) ms_X8_37 (hn := rfl) (hst := rfl) (hw := Nat.le_of_ble_eq_true rfl) (hR := ⟨⟨rfl, rfl⟩, Nat.le_of_ble_eq_true rfl, Nat.le_of_ble_eq_true rfl⟩) (hnc := ⟨Nat.le_of_ble_eq_true rfl, Nat.le_of_ble_eq_true rfl⟩)

set_option maxHeartbeats 4000000 in
set_option maxRecDepth 100000 in
theorem x_unlock_1 {l : Launch} {D : va_G} {cy : Nat → ClassId} {ad : Ads} (hI : IJ ad) (x : Mem) (hfl : l.stackTraces = false) (p0 : Int32) (h0 : p0 < 0 ∨ 3 ≤ p0) : Ctx l yX8_unlock cX8_unlock 4 (some .int) rmx_X8_unlock D cy ad [.ref (ad 8 9 0), .int p0] x "java/lang/IndexOutOfBoundsException" := by
  refine rm_entryX hI (by decide) (Nat.le_of_ble_eq_true rfl) ?_
  intro p e s m args below meth c hc hX
  show RM _ _ _ _ _ _ _ _ _ _ _ _ _ _ _ _ _ [(0, .ref (ad 8 9 0)), (1, .int p0)] []
  refine rm_iload_n hc dX8_unlock_0 rfl rfl ?_
  refine rm_iconst (v := 3) hc dX8_unlock_1 (by decide) ?_
  exact rm_thrS (As := [.int p0, .int 3]) (rest := []) hc hX dX8_unlock_2 (x_needIndex hI x hfl p0 3 h0) ms_X8_37 (hn := rfl) (hst := rfl) (hw := Nat.le_of_ble_eq_true rfl) (hR := ⟨⟨rfl, rfl⟩, Nat.le_of_ble_eq_true rfl, Nat.le_of_ble_eq_true rfl⟩) (hnc := ⟨Nat.le_of_ble_eq_true rfl, Nat.le_of_ble_eq_true rfl⟩)

set_option maxHeartbeats 4000000 in
set_option maxRecDepth 100000 in
theorem x_useful_1 {l : Launch} {D : va_G} {cy : Nat → ClassId} {ad : Ads} (hI : IJ ad) (x : Mem) (hfl : l.stackTraces = false) (p0 : Int32) (h0 : p0 < 0 ∨ 3 ≤ p0) : Ctx l yX8_useful cX8_useful 2 (some .int) rmx_X8_useful D cy ad [.ref (ad 8 9 0), .int p0] x "java/lang/IndexOutOfBoundsException" := by
  refine rm_entryX hI (by decide) (Nat.le_of_ble_eq_true rfl) ?_
  intro p e s m args below meth c hc hX
  show RM _ _ _ _ _ _ _ _ _ _ _ _ _ _ _ _ _ [(0, .ref (ad 8 9 0)), (1, .int p0)] []
  refine rm_iload_n hc dX8_useful_0 rfl rfl ?_
  refine rm_iconst (v := 3) hc dX8_useful_1 (by decide) ?_
  exact rm_thrS (As := [.int p0, .int 3]) (rest := []) hc hX dX8_useful_2 (x_needIndex hI x hfl p0 3 h0) ms_X8_37 (hn := rfl) (hst := rfl) (hw := Nat.le_of_ble_eq_true rfl) (hR := ⟨⟨rfl, rfl⟩, Nat.le_of_ble_eq_true rfl, Nat.le_of_ble_eq_true rfl⟩) (hnc := ⟨Nat.le_of_ble_eq_true rfl, Nat.le_of_ble_eq_true rfl⟩)

set_option maxHeartbeats 4000000 in
set_option maxRecDepth 100000 in
theorem x_set_1 {l : Launch} {D : va_G} {cy : Nat → ClassId} {ad : Ads} (hI : IJ ad) (x : Mem) (hfl : l.stackTraces = false) (p0 p1 : Int32) (h0 : p0 < 0 ∨ 3 ≤ p0) : Ctx l yX8_set cX8_set 4 (some .int) rmx_X8_set D cy ad [.ref (ad 8 9 0), .int p0, .int p1] x "java/lang/IndexOutOfBoundsException" := by
  refine rm_entryX hI (by decide) (Nat.le_of_ble_eq_true rfl) ?_
  intro p e s m args below meth c hc hX
  show RM _ _ _ _ _ _ _ _ _ _ _ _ _ _ _ _ _ [(0, .ref (ad 8 9 0)), (1, .int p0), (2, .int p1)] []
  refine rm_iload_n hc dX8_set_0 rfl rfl ?_
  refine rm_iconst (v := 3) hc dX8_set_1 (by decide) ?_
  exact rm_thrS (As := [.int p0, .int 3]) (rest := []) hc hX dX8_set_2 (x_needIndex hI x hfl p0 3 h0) ms_X8_37 (hn := rfl) (hst := rfl) (hw := Nat.le_of_ble_eq_true rfl) (hR := ⟨⟨rfl, rfl⟩, Nat.le_of_ble_eq_true rfl, Nat.le_of_ble_eq_true rfl⟩) (hnc := ⟨Nat.le_of_ble_eq_true rfl, Nat.le_of_ble_eq_true rfl⟩)

set_option maxHeartbeats 4000000 in
set_option maxRecDepth 100000 in
theorem x_set_2 {l : Launch} {D : va_G} {cy : Nat → ClassId} {ad : Ads} (hI : IJ ad) (x : Mem) (hfl : l.stackTraces = false) (p0 p1 lov hiv : Int32) (love : lov = if p0 = 2 then 0 else 1) (hive : hiv = if p0 = 0 then 64 else if p0 = 1 then 500 else 20) (hw1 : ¬ p0 < 0) (hw2 : p0 < 3) (h0 : p1 < lov ∨ hiv < p1) : Ctx l yX8_set cX8_set 4 (some .int) rmx_X8_set D cy ad [.ref (ad 8 9 0), .int p0, .int p1] x "java/lang/IllegalArgumentException" := by
  refine rm_entryX hI (by decide) (Nat.le_of_ble_eq_true rfl) ?_
  intro p e s m args below meth c hc hX
  show RM _ _ _ _ _ _ _ _ _ _ _ _ _ _ _ _ _ [(0, .ref (ad 8 9 0)), (1, .int p0), (2, .int p1)] []
  refine rm_iload_n hc dX8_set_0 rfl rfl ?_
  refine rm_iconst (v := 3) hc dX8_set_1 (by decide) ?_
  refine rm_callvS (As := [.int p0, .int 3]) (rest := []) hc dX8_set_2 (c_X8_needIndex hI x p0 3 hw1 hw2) ms_X8_37 (hn := rfl) (hst := rfl) (hw := Nat.le_of_ble_eq_true rfl) (hR := ⟨⟨rfl, rfl⟩, Nat.le_of_ble_eq_true rfl, Nat.le_of_ble_eq_true rfl⟩) (hnc := ⟨Nat.zero_le _, Nat.zero_le _⟩) (fun y_1 h_1 => ?_)
  obtain rfl := h_1.symm
  refine rm_iload_n hc dX8_set_5 rfl rfl ?_
  refine rm_iload_n hc dX8_set_6 rfl rfl ?_
  refine rm_calliS (As := [.int p0]) (rest := [.int p1]) hc dX8_set_7 (c_X4_least hI x p0) ms_X8_120 (hn := rfl) (hst := rfl) (hw := Nat.le_of_ble_eq_true rfl) (hR := ⟨⟨rfl, rfl⟩, Nat.le_of_ble_eq_true rfl, Nat.le_of_ble_eq_true rfl⟩) (hnc := ⟨Nat.zero_le _, Nat.zero_le _⟩) (fun r_2 y_2 h_2 => ?_)
  obtain ⟨e_2, ey_2⟩ := h_2
  obtain rfl := ey_2.symm
  obtain rfl : lov = r_2 := love.trans e_2.symm
  refine rm_iload_n hc dX8_set_10 rfl rfl ?_
  refine rm_calliS (As := [.int p0]) (rest := [.int lov, .int p1]) hc dX8_set_11 (c_X4_most hI x p0) ms_X8_126 (hn := rfl) (hst := rfl) (hw := Nat.le_of_ble_eq_true rfl) (hR := ⟨⟨rfl, rfl⟩, Nat.le_of_ble_eq_true rfl, Nat.le_of_ble_eq_true rfl⟩) (hnc := ⟨Nat.zero_le _, Nat.zero_le _⟩) (fun r_3 y_3 h_3 => ?_)
  obtain ⟨e_3, ey_3⟩ := h_3
  obtain rfl := ey_3.symm
  obtain rfl : hiv = r_3 := hive.trans e_3.symm
  exact rm_thrS (As := [.int p1, .int lov, .int hiv]) (rest := []) hc hX dX8_set_14 (x_needRange hI x hfl p1 lov hiv h0) ms_X8_41 (hn := rfl) (hst := rfl) (hw := Nat.le_of_ble_eq_true rfl) (hR := ⟨⟨rfl, rfl⟩, Nat.le_of_ble_eq_true rfl, Nat.le_of_ble_eq_true rfl⟩) (hnc := ⟨Nat.le_of_ble_eq_true rfl, Nat.le_of_ble_eq_true rfl⟩)

set_option maxHeartbeats 4000000 in
set_option maxRecDepth 100000 in
theorem x_append_1 {l : Launch} {D : va_G} {cy : Nat → ClassId} {ad : Ads} (hI : IJ ad) (x : Mem) (hfl : l.stackTraces = false) (p0 : Int32) (h0 : p0 < 33 ∨ 126 < p0) : Ctx l yX8_append cX8_append 2 (some .int) rmx_X8_append D cy ad [.ref (ad 8 9 0), .int p0] x "java/lang/IllegalArgumentException" := by
  refine rm_entryX hI (by decide) (Nat.le_of_ble_eq_true rfl) ?_
  intro p e s m args below meth c hc hX
  show RM _ _ _ _ _ _ _ _ _ _ _ _ _ _ _ _ _ [(0, .ref (ad 8 9 0)), (1, .int p0)] []
  refine rm_iload_n hc dX8_append_0 rfl rfl ?_
  refine rm_bipush (v := 33) hc dX8_append_1 (by decide) ?_
  refine rm_bipush (v := 126) hc dX8_append_3 (by decide) ?_
  exact rm_thrS (As := [.int p0, .int 33, .int 126]) (rest := []) hc hX dX8_append_5 (x_needRange hI x hfl p0 33 126 h0) ms_X8_41 (hn := rfl) (hst := rfl) (hw := Nat.le_of_ble_eq_true rfl) (hR := ⟨⟨rfl, rfl⟩, Nat.le_of_ble_eq_true rfl, Nat.le_of_ble_eq_true rfl⟩) (hnc := ⟨Nat.le_of_ble_eq_true rfl, Nat.le_of_ble_eq_true rfl⟩)

set_option maxHeartbeats 4000000 in
set_option maxRecDepth 100000 in
theorem x_append_2 {l : Launch} {D : va_G} {cy : Nat → ClassId} {ad : Ads} (hI : IJ ad) (x : Mem) (hfl : l.stackTraces = false) (p0 : Int32) (hs1 : ¬ p0 < 33) (hs2 : ¬ 126 < p0) (htl : x 8 2 = 60) : Ctx l yX8_append cX8_append 2 (some .int) rmx_X8_append D cy ad [.ref (ad 8 9 0), .int p0] x "java/lang/IllegalStateException" := by
  refine rm_entryX hI (by decide) (Nat.le_of_ble_eq_true rfl) ?_
  intro p e s m args below meth c hc hX
  show RM _ _ _ _ _ _ _ _ _ _ _ _ _ _ _ _ _ [(0, .ref (ad 8 9 0)), (1, .int p0)] []
  refine rm_iload_n hc dX8_append_0 rfl rfl ?_
  refine rm_bipush (v := 33) hc dX8_append_1 (by decide) ?_
  refine rm_bipush (v := 126) hc dX8_append_3 (by decide) ?_
  refine rm_callvS (As := [.int p0, .int 33, .int 126]) (rest := []) hc dX8_append_5 (c_X8_needRange hI x p0 33 126 hs1 hs2) ms_X8_41 (hn := rfl) (hst := rfl) (hw := Nat.le_of_ble_eq_true rfl) (hR := ⟨⟨rfl, rfl⟩, Nat.le_of_ble_eq_true rfl, Nat.le_of_ble_eq_true rfl⟩) (hnc := ⟨Nat.zero_le _, Nat.zero_le _⟩) (fun y_1 h_1 => ?_)
  obtain rfl := h_1.symm
  refine rm_aload_n hc dX8_append_8 rfl rfl ?_
  refine rm_get hc dX8_append_9 fl_X8_26 dm_9 rfl rfl ?_
  refine rm_geti hc dX8_append_12 fl_X8_139 dm_12 rfl rfl (fun v_2 e_2 => ?_)
  obtain rfl : v_2 = 60 := e_2.trans htl
  refine rm_bipush (v := 60) hc dX8_append_15 (by decide) ?_
  refine rm_icmp_ge (tgt := 24) hc dX8_append_17 (by decide) (fun _ => ?_) (fun h => absurd (by decide) h)
  refine rm_iconst (v := 0) hc dX8_append_24 (by decide) ?_
  exact rm_thrS (As := [.int 0]) (rest := []) hc hX dX8_append_25 (x_needState hI x hfl) ms_X8_69 (hn := rfl) (hst := rfl) (hw := Nat.le_of_ble_eq_true rfl) (hR := ⟨⟨rfl, rfl⟩, Nat.le_of_ble_eq_true rfl, Nat.le_of_ble_eq_true rfl⟩) (hnc := ⟨Nat.le_of_ble_eq_true rfl, Nat.le_of_ble_eq_true rfl⟩)

set_option maxHeartbeats 4000000 in
set_option maxRecDepth 100000 in
theorem x_play_1 {l : Launch} {D : va_G} {cy : Nat → ClassId} {ad : Ads} (hI : IJ ad) (x : Mem) (hfl : l.stackTraces = false) {tl : Nat} (htl : x 8 2 = nI tl) (ht6 : tl ≤ 60) (hcomp : compS (feS x tl 0 0) = 0) : Ctx l yX8_play cX8_play 4 (some .int) rmx_X8_play D cy ad [.ref (ad 8 9 0)] x "java/lang/IllegalArgumentException" := by
  refine rm_entryX hI (by decide) (Nat.le_of_ble_eq_true rfl) ?_
  intro p e s m args below meth c hc hX
  show RM _ _ _ _ _ _ _ _ _ _ _ _ _ _ _ _ _ [(0, .ref (ad 8 9 0))] []
  refine rm_aload_n hc dX8_play_0 rfl rfl ?_
  refine rm_get hc dX8_play_1 fl_X8_26 dm_9 rfl rfl ?_
  refine rm_calliV (As := []) (rest := []) hc dX8_play_4 (c_X7_isComplete hI x (tl := tl) htl (by omega)) mv_X8_147 dm_12 rfl rfl (hn := rfl) (hst := rfl) (hw := Nat.le_of_ble_eq_true rfl) (hR := ⟨⟨rfl, rfl⟩, Nat.le_of_ble_eq_true rfl, Nat.le_of_ble_eq_true rfl⟩) (hnc := ⟨Nat.zero_le _, Nat.zero_le _⟩) (fun r_1 y_1 h_1 => ?_)
  obtain ⟨e_1, ey_1⟩ := h_1
  obtain rfl := ey_1.symm
  obtain rfl : r_1 = 0 := e_1.trans hcomp
  exact rm_thrS (As := [.int 0]) (rest := []) hc hX dX8_play_7 (x_needArgument hI x hfl) ms_X8_151 (hn := rfl) (hst := rfl) (hw := Nat.le_of_ble_eq_true rfl) (hR := ⟨⟨rfl, rfl⟩, Nat.le_of_ble_eq_true rfl, Nat.le_of_ble_eq_true rfl⟩) (hnc := ⟨Nat.le_of_ble_eq_true rfl, Nat.le_of_ble_eq_true rfl⟩)

set_option maxHeartbeats 4000000 in
set_option maxRecDepth 100000 in
theorem x_undo_1 {l : Launch} {D : va_G} {cy : Nat → ClassId} {ad : Ads} (hI : IJ ad) (x : Mem) (hfl : l.stackTraces = false) (hhl : x 8 1 = 0) : Ctx l yX8_undo cX8_undo 1 (some .int) rmx_X8_undo D cy ad [.ref (ad 8 9 0)] x "java/lang/IllegalStateException" := by
  refine rm_entryX hI (by decide) (Nat.le_of_ble_eq_true rfl) ?_
  intro p e s m args below meth c hc hX
  show RM _ _ _ _ _ _ _ _ _ _ _ _ _ _ _ _ _ [(0, .ref (ad 8 9 0))] []
  refine rm_aload_n hc dX8_undo_0 rfl rfl ?_
  refine rm_get hc dX8_undo_1 fl_X8_19 dm_9 rfl rfl ?_
  refine rm_geti hc dX8_undo_4 fl_X8_161 dm_10 rfl rfl (fun v_1 e_1 => ?_)
  obtain rfl : v_1 = 0 := e_1.trans hhl
  refine rm_if_le (tgt := 14) hc dX8_undo_7 (by decide) (fun _ => ?_) (fun h => absurd (by decide) h)
  refine rm_iconst (v := 0) hc dX8_undo_14 (by decide) ?_
  exact rm_thrS (As := [.int 0]) (rest := []) hc hX dX8_undo_15 (x_needState hI x hfl) ms_X8_69 (hn := rfl) (hst := rfl) (hw := Nat.le_of_ble_eq_true rfl) (hR := ⟨⟨rfl, rfl⟩, Nat.le_of_ble_eq_true rfl, Nat.le_of_ble_eq_true rfl⟩) (hnc := ⟨Nat.le_of_ble_eq_true rfl, Nat.le_of_ble_eq_true rfl⟩)

set_option maxHeartbeats 4000000 in
set_option maxRecDepth 100000 in
theorem x_fob_1 {l : Launch} {D : va_G} {cy : Nat → ClassId} {ad : Ads} (hI : IJ ad) (x : Mem) (hfl : l.stackTraces = false) (p0 p1 : Int32) (h0 : p0 < 0 ∨ 4 ≤ p0) : Ctx l yX8_fob cX8_fob 3 (some .int) rmx_X8_fob D cy ad [.ref (ad 8 9 0), .int p0, .int p1] x "java/lang/IndexOutOfBoundsException" := by
  refine rm_entryX hI (by decide) (Nat.le_of_ble_eq_true rfl) ?_
  intro p e s m args below meth c hc hX
  show RM _ _ _ _ _ _ _ _ _ _ _ _ _ _ _ _ _ [(0, .ref (ad 8 9 0)), (1, .int p0), (2, .int p1)] []
  refine rm_iload_n hc dX8_fob_0 rfl rfl ?_
  refine rm_iconst (v := 4) hc dX8_fob_1 (by decide) ?_
  exact rm_thrS (As := [.int p0, .int 4]) (rest := []) hc hX dX8_fob_2 (x_needIndex hI x hfl p0 4 h0) ms_X8_37 (hn := rfl) (hst := rfl) (hw := Nat.le_of_ble_eq_true rfl) (hR := ⟨⟨rfl, rfl⟩, Nat.le_of_ble_eq_true rfl, Nat.le_of_ble_eq_true rfl⟩) (hnc := ⟨Nat.le_of_ble_eq_true rfl, Nat.le_of_ble_eq_true rfl⟩)

set_option maxHeartbeats 4000000 in
set_option maxRecDepth 100000 in
theorem x_fob_2 {l : Launch} {D : va_G} {cy : Nat → ClassId} {ad : Ads} (hI : IJ ad) (x : Mem) (hfl : l.stackTraces = false) {j : Nat} (hj : j < 4) (p1 : Int32) (h0 : p1 < 0 ∨ 4 < p1) : Ctx l yX8_fob cX8_fob 3 (some .int) rmx_X8_fob D cy ad [.ref (ad 8 9 0), .int (nI (j)), .int p1] x "java/lang/IllegalArgumentException" := by
  refine rm_entryX hI (by decide) (Nat.le_of_ble_eq_true rfl) ?_
  intro p e s m args below meth c hc hX
  show RM _ _ _ _ _ _ _ _ _ _ _ _ _ _ _ _ _ [(0, .ref (ad 8 9 0)), (1, .int (nI (j))), (2, .int p1)] []
  refine rm_iload_n hc dX8_fob_0 rfl rfl ?_
  refine rm_iconst (v := 4) hc dX8_fob_1 (by decide) ?_
  refine rm_callvS (As := [.int (nI (j)), .int 4]) (rest := []) hc dX8_fob_2 (c_X8_needIndex hI x (nI (j)) 4 (nI_pos (n := j) (by omega)) (nI_lt (a := j) (b := 4) (by omega) (by omega))) ms_X8_37 (hn := rfl) (hst := rfl) (hw := Nat.le_of_ble_eq_true rfl) (hR := ⟨⟨rfl, rfl⟩, Nat.le_of_ble_eq_true rfl, Nat.le_of_ble_eq_true rfl⟩) (hnc := ⟨Nat.zero_le _, Nat.zero_le _⟩) (fun y_1 h_1 => ?_)
  obtain rfl := h_1.symm
  refine rm_iload_n hc dX8_fob_5 rfl rfl ?_
  refine rm_iconst (v := 0) hc dX8_fob_6 (by decide) ?_
  refine rm_iconst (v := 4) hc dX8_fob_7 (by decide) ?_
  exact rm_thrS (As := [.int p1, .int 0, .int 4]) (rest := []) hc hX dX8_fob_8 (x_needRange hI x hfl p1 0 4 h0) ms_X8_41 (hn := rfl) (hst := rfl) (hw := Nat.le_of_ble_eq_true rfl) (hR := ⟨⟨rfl, rfl⟩, Nat.le_of_ble_eq_true rfl, Nat.le_of_ble_eq_true rfl⟩) (hnc := ⟨Nat.le_of_ble_eq_true rfl, Nat.le_of_ble_eq_true rfl⟩)

set_option maxHeartbeats 4000000 in
set_option maxRecDepth 100000 in
theorem x_slot_1 {l : Launch} {D : va_G} {cy : Nat → ClassId} {ad : Ads} (hI : IJ ad) (x : Mem) (hfl : l.stackTraces = false) (p0 p1 p2 : Int32) (h0 : p0 < 0 ∨ 3 ≤ p0) : Ctx l yX8_slot cX8_slot 4 (some .int) rmx_X8_slot D cy ad [.ref (ad 8 9 0), .int p0, .int p1, .int p2] x "java/lang/IndexOutOfBoundsException" := by
  refine rm_entryX hI (by decide) (Nat.le_of_ble_eq_true rfl) ?_
  intro p e s m args below meth c hc hX
  show RM _ _ _ _ _ _ _ _ _ _ _ _ _ _ _ _ _ [(0, .ref (ad 8 9 0)), (1, .int p0), (2, .int p1), (3, .int p2)] []
  refine rm_iload_n hc dX8_slot_0 rfl rfl ?_
  refine rm_iconst (v := 3) hc dX8_slot_1 (by decide) ?_
  exact rm_thrS (As := [.int p0, .int 3]) (rest := []) hc hX dX8_slot_2 (x_needIndex hI x hfl p0 3 h0) ms_X8_37 (hn := rfl) (hst := rfl) (hw := Nat.le_of_ble_eq_true rfl) (hR := ⟨⟨rfl, rfl⟩, Nat.le_of_ble_eq_true rfl, Nat.le_of_ble_eq_true rfl⟩) (hnc := ⟨Nat.le_of_ble_eq_true rfl, Nat.le_of_ble_eq_true rfl⟩)

set_option maxHeartbeats 4000000 in
set_option maxRecDepth 100000 in
theorem x_slot_2 {l : Launch} {D : va_G} {cy : Nat → ClassId} {ad : Ads} (hI : IJ ad) (x : Mem) (hfl : l.stackTraces = false) {d : Nat} (hd3 : d < 3) (p1 p2 : Int32) (h0 : p1 < 0 ∨ 4 ≤ p1) : Ctx l yX8_slot cX8_slot 4 (some .int) rmx_X8_slot D cy ad [.ref (ad 8 9 0), .int (nI (d)), .int p1, .int p2] x "java/lang/IndexOutOfBoundsException" := by
  refine rm_entryX hI (by decide) (Nat.le_of_ble_eq_true rfl) ?_
  intro p e s m args below meth c hc hX
  show RM _ _ _ _ _ _ _ _ _ _ _ _ _ _ _ _ _ [(0, .ref (ad 8 9 0)), (1, .int (nI (d))), (2, .int p1), (3, .int p2)] []
  refine rm_iload_n hc dX8_slot_0 rfl rfl ?_
  refine rm_iconst (v := 3) hc dX8_slot_1 (by decide) ?_
  refine rm_callvS (As := [.int (nI (d)), .int 3]) (rest := []) hc dX8_slot_2 (c_X8_needIndex hI x (nI (d)) 3 (nI_pos (n := d) (by omega)) (nI_lt (a := d) (b := 3) (by omega) (by omega))) ms_X8_37 (hn := rfl) (hst := rfl) (hw := Nat.le_of_ble_eq_true rfl) (hR := ⟨⟨rfl, rfl⟩, Nat.le_of_ble_eq_true rfl, Nat.le_of_ble_eq_true rfl⟩) (hnc := ⟨Nat.zero_le _, Nat.zero_le _⟩) (fun y_1 h_1 => ?_)
  obtain rfl := h_1.symm
  refine rm_iload_n hc dX8_slot_5 rfl rfl ?_
  refine rm_iconst (v := 4) hc dX8_slot_6 (by decide) ?_
  exact rm_thrS (As := [.int p1, .int 4]) (rest := []) hc hX dX8_slot_7 (x_needIndex hI x hfl p1 4 h0) ms_X8_37 (hn := rfl) (hst := rfl) (hw := Nat.le_of_ble_eq_true rfl) (hR := ⟨⟨rfl, rfl⟩, Nat.le_of_ble_eq_true rfl, Nat.le_of_ble_eq_true rfl⟩) (hnc := ⟨Nat.le_of_ble_eq_true rfl, Nat.le_of_ble_eq_true rfl⟩)

set_option maxHeartbeats 4000000 in
set_option maxRecDepth 100000 in
theorem x_slot_3 {l : Launch} {D : va_G} {cy : Nat → ClassId} {ad : Ads} (hI : IJ ad) (x : Mem) (hfl : l.stackTraces = false) {d : Nat} (hd3 : d < 3) {s0 : Nat} (hs : s0 < 4) (p2 : Int32) (h0 : p2 < 0 ∨ 3 < p2) : Ctx l yX8_slot cX8_slot 4 (some .int) rmx_X8_slot D cy ad [.ref (ad 8 9 0), .int (nI (d)), .int (nI (s0)), .int p2] x "java/lang/IllegalArgumentException" := by
  refine rm_entryX hI (by decide) (Nat.le_of_ble_eq_true rfl) ?_
  intro p e s m args below meth c hc hX
  show RM _ _ _ _ _ _ _ _ _ _ _ _ _ _ _ _ _ [(0, .ref (ad 8 9 0)), (1, .int (nI (d))), (2, .int (nI (s0))), (3, .int p2)] []
  refine rm_iload_n hc dX8_slot_0 rfl rfl ?_
  refine rm_iconst (v := 3) hc dX8_slot_1 (by decide) ?_
  refine rm_callvS (As := [.int (nI (d)), .int 3]) (rest := []) hc dX8_slot_2 (c_X8_needIndex hI x (nI (d)) 3 (nI_pos (n := d) (by omega)) (nI_lt (a := d) (b := 3) (by omega) (by omega))) ms_X8_37 (hn := rfl) (hst := rfl) (hw := Nat.le_of_ble_eq_true rfl) (hR := ⟨⟨rfl, rfl⟩, Nat.le_of_ble_eq_true rfl, Nat.le_of_ble_eq_true rfl⟩) (hnc := ⟨Nat.zero_le _, Nat.zero_le _⟩) (fun y_1 h_1 => ?_)
  obtain rfl := h_1.symm
  refine rm_iload_n hc dX8_slot_5 rfl rfl ?_
  refine rm_iconst (v := 4) hc dX8_slot_6 (by decide) ?_
  refine rm_callvS (As := [.int (nI (s0)), .int 4]) (rest := []) hc dX8_slot_7 (c_X8_needIndex hI x (nI (s0)) 4 (nI_pos (n := s0) (by omega)) (nI_lt (a := s0) (b := 4) (by omega) (by omega))) ms_X8_37 (hn := rfl) (hst := rfl) (hw := Nat.le_of_ble_eq_true rfl) (hR := ⟨⟨rfl, rfl⟩, Nat.le_of_ble_eq_true rfl, Nat.le_of_ble_eq_true rfl⟩) (hnc := ⟨Nat.zero_le _, Nat.zero_le _⟩) (fun y_2 h_2 => ?_)
  obtain rfl := h_2.symm
  refine rm_iload_n hc dX8_slot_10 rfl rfl ?_
  refine rm_iconst (v := 0) hc dX8_slot_11 (by decide) ?_
  refine rm_iconst (v := 3) hc dX8_slot_12 (by decide) ?_
  exact rm_thrS (As := [.int p2, .int 0, .int 3]) (rest := []) hc hX dX8_slot_13 (x_needRange hI x hfl p2 0 3 h0) ms_X8_41 (hn := rfl) (hst := rfl) (hw := Nat.le_of_ble_eq_true rfl) (hR := ⟨⟨rfl, rfl⟩, Nat.le_of_ble_eq_true rfl, Nat.le_of_ble_eq_true rfl⟩) (hnc := ⟨Nat.le_of_ble_eq_true rfl, Nat.le_of_ble_eq_true rfl⟩)

set_option maxHeartbeats 4000000 in
set_option maxRecDepth 100000 in
theorem x_door_1 {l : Launch} {D : va_G} {cy : Nat → ClassId} {ad : Ads} (hI : IJ ad) (x : Mem) (hfl : l.stackTraces = false) (p0 p1 : Int32) (h0 : p0 < 0 ∨ 3 ≤ p0) : Ctx l yX8_door cX8_door 3 (some .int) rmx_X8_door D cy ad [.ref (ad 8 9 0), .int p0, .int p1] x "java/lang/IndexOutOfBoundsException" := by
  refine rm_entryX hI (by decide) (Nat.le_of_ble_eq_true rfl) ?_
  intro p e s m args below meth c hc hX
  show RM _ _ _ _ _ _ _ _ _ _ _ _ _ _ _ _ _ [(0, .ref (ad 8 9 0)), (1, .int p0), (2, .int p1)] []
  refine rm_iload_n hc dX8_door_0 rfl rfl ?_
  refine rm_iconst (v := 3) hc dX8_door_1 (by decide) ?_
  exact rm_thrS (As := [.int p0, .int 3]) (rest := []) hc hX dX8_door_2 (x_needIndex hI x hfl p0 3 h0) ms_X8_37 (hn := rfl) (hst := rfl) (hw := Nat.le_of_ble_eq_true rfl) (hR := ⟨⟨rfl, rfl⟩, Nat.le_of_ble_eq_true rfl, Nat.le_of_ble_eq_true rfl⟩) (hnc := ⟨Nat.le_of_ble_eq_true rfl, Nat.le_of_ble_eq_true rfl⟩)

set_option maxHeartbeats 4000000 in
set_option maxRecDepth 100000 in
theorem x_door_2 {l : Launch} {D : va_G} {cy : Nat → ClassId} {ad : Ads} (hI : IJ ad) (x : Mem) (hfl : l.stackTraces = false) {d : Nat} (hd3 : d < 3) (p1 : Int32) (h0 : p1 < 0 ∨ 7 < p1) : Ctx l yX8_door cX8_door 3 (some .int) rmx_X8_door D cy ad [.ref (ad 8 9 0), .int (nI (d)), .int p1] x "java/lang/IllegalArgumentException" := by
  refine rm_entryX hI (by decide) (Nat.le_of_ble_eq_true rfl) ?_
  intro p e s m args below meth c hc hX
  show RM _ _ _ _ _ _ _ _ _ _ _ _ _ _ _ _ _ [(0, .ref (ad 8 9 0)), (1, .int (nI (d))), (2, .int p1)] []
  refine rm_iload_n hc dX8_door_0 rfl rfl ?_
  refine rm_iconst (v := 3) hc dX8_door_1 (by decide) ?_
  refine rm_callvS (As := [.int (nI (d)), .int 3]) (rest := []) hc dX8_door_2 (c_X8_needIndex hI x (nI (d)) 3 (nI_pos (n := d) (by omega)) (nI_lt (a := d) (b := 3) (by omega) (by omega))) ms_X8_37 (hn := rfl) (hst := rfl) (hw := Nat.le_of_ble_eq_true rfl) (hR := ⟨⟨rfl, rfl⟩, Nat.le_of_ble_eq_true rfl, Nat.le_of_ble_eq_true rfl⟩) (hnc := ⟨Nat.zero_le _, Nat.zero_le _⟩) (fun y_1 h_1 => ?_)
  obtain rfl := h_1.symm
  refine rm_iload_n hc dX8_door_5 rfl rfl ?_
  refine rm_iconst (v := 0) hc dX8_door_6 (by decide) ?_
  refine rm_bipush (v := 7) hc dX8_door_7 (by decide) ?_
  exact rm_thrS (As := [.int p1, .int 0, .int 7]) (rest := []) hc hX dX8_door_9 (x_needRange hI x hfl p1 0 7 h0) ms_X8_41 (hn := rfl) (hst := rfl) (hw := Nat.le_of_ble_eq_true rfl) (hR := ⟨⟨rfl, rfl⟩, Nat.le_of_ble_eq_true rfl, Nat.le_of_ble_eq_true rfl⟩) (hnc := ⟨Nat.le_of_ble_eq_true rfl, Nat.le_of_ble_eq_true rfl⟩)

set_option maxHeartbeats 4000000 in
set_option maxRecDepth 100000 in
theorem x_air_1 {l : Launch} {D : va_G} {cy : Nat → ClassId} {ad : Ads} (hI : IJ ad) (x : Mem) (hfl : l.stackTraces = false) (p0 : Int32) (h0 : p0 < 0) : Ctx l yX8_air cX8_air 2 (some .int) rmx_X8_air D cy ad [.ref (ad 8 9 0), .int p0] x "java/lang/IllegalArgumentException" := by
  refine rm_entryX hI (by decide) (Nat.le_of_ble_eq_true rfl) ?_
  intro p e s m args below meth c hc hX
  show RM _ _ _ _ _ _ _ _ _ _ _ _ _ _ _ _ _ [(0, .ref (ad 8 9 0)), (1, .int p0)] []
  refine rm_iload_n hc dX8_air_0 rfl rfl ?_
  refine rm_if_lt (tgt := 8) hc dX8_air_1 (by decide) (fun _ => ?_) (fun h => absurd h0 h)
  refine rm_iconst (v := 0) hc dX8_air_8 (by decide) ?_
  exact rm_thrS (As := [.int 0]) (rest := []) hc hX dX8_air_9 (x_needArgument hI x hfl) ms_X8_151 (hn := rfl) (hst := rfl) (hw := Nat.le_of_ble_eq_true rfl) (hR := ⟨⟨rfl, rfl⟩, Nat.le_of_ble_eq_true rfl, Nat.le_of_ble_eq_true rfl⟩) (hnc := ⟨Nat.le_of_ble_eq_true rfl, Nat.le_of_ble_eq_true rfl⟩)

set_option maxHeartbeats 4000000 in
set_option maxRecDepth 100000 in
theorem x_count_1 {l : Launch} {D : va_G} {cy : Nat → ClassId} {ad : Ads} (hI : IJ ad) (x : Mem) (hfl : l.stackTraces = false) (p0 : Int32) (h0 : p0 < 0 ∨ 7 < p0) : Ctx l yX8_count cX8_count 2 (some .int) rmx_X8_count D cy ad [.ref (ad 8 9 0), .int p0] x "java/lang/IllegalArgumentException" := by
  refine rm_entryX hI (by decide) (Nat.le_of_ble_eq_true rfl) ?_
  intro p e s m args below meth c hc hX
  show RM _ _ _ _ _ _ _ _ _ _ _ _ _ _ _ _ _ [(0, .ref (ad 8 9 0)), (1, .int p0)] []
  refine rm_iload_n hc dX8_count_0 rfl rfl ?_
  refine rm_iconst (v := 0) hc dX8_count_1 (by decide) ?_
  refine rm_bipush (v := 7) hc dX8_count_2 (by decide) ?_
  exact rm_thrS (As := [.int p0, .int 0, .int 7]) (rest := []) hc hX dX8_count_4 (x_needRange hI x hfl p0 0 7 h0) ms_X8_41 (hn := rfl) (hst := rfl) (hw := Nat.le_of_ble_eq_true rfl) (hR := ⟨⟨rfl, rfl⟩, Nat.le_of_ble_eq_true rfl, Nat.le_of_ble_eq_true rfl⟩) (hnc := ⟨Nat.le_of_ble_eq_true rfl, Nat.le_of_ble_eq_true rfl⟩)

set_option maxHeartbeats 4000000 in
set_option maxRecDepth 100000 in
theorem x_setting_1 {l : Launch} {D : va_G} {cy : Nat → ClassId} {ad : Ads} (hI : IJ ad) (x : Mem) (hfl : l.stackTraces = false) (p0 : Int32) (h0 : p0 < 0 ∨ 3 ≤ p0) : Ctx l yX8_setting cX8_setting 2 (some .int) rmx_X8_setting D cy ad [.ref (ad 8 9 0), .int p0] x "java/lang/IndexOutOfBoundsException" := by
  refine rm_entryX hI (by decide) (Nat.le_of_ble_eq_true rfl) ?_
  intro p e s m args below meth c hc hX
  show RM _ _ _ _ _ _ _ _ _ _ _ _ _ _ _ _ _ [(0, .ref (ad 8 9 0)), (1, .int p0)] []
  refine rm_iload_n hc dX8_setting_0 rfl rfl ?_
  refine rm_iconst (v := 3) hc dX8_setting_1 (by decide) ?_
  exact rm_thrS (As := [.int p0, .int 3]) (rest := []) hc hX dX8_setting_2 (x_needIndex hI x hfl p0 3 h0) ms_X8_37 (hn := rfl) (hst := rfl) (hw := Nat.le_of_ble_eq_true rfl) (hR := ⟨⟨rfl, rfl⟩, Nat.le_of_ble_eq_true rfl, Nat.le_of_ble_eq_true rfl⟩) (hnc := ⟨Nat.le_of_ble_eq_true rfl, Nat.le_of_ble_eq_true rfl⟩)

set_option maxHeartbeats 4000000 in
set_option maxRecDepth 100000 in
theorem x_ifHeard_1 {l : Launch} {D : va_G} {cy : Nat → ClassId} {ad : Ads} (hI : IJ ad) (x : Mem) (hfl : l.stackTraces = false) (p0 p1 : Int32) (h0 : p0 < 0 ∨ 3 ≤ p0) : Ctx l yX8_ifHeard cX8_ifHeard 3 (some .int) rmx_X8_ifHeard D cy ad [.ref (ad 8 9 0), .int p0, .int p1] x "java/lang/IndexOutOfBoundsException" := by
  refine rm_entryX hI (by decide) (Nat.le_of_ble_eq_true rfl) ?_
  intro p e s m args below meth c hc hX
  show RM _ _ _ _ _ _ _ _ _ _ _ _ _ _ _ _ _ [(0, .ref (ad 8 9 0)), (1, .int p0), (2, .int p1)] []
  refine rm_iload_n hc dX8_ifHeard_0 rfl rfl ?_
  refine rm_iconst (v := 3) hc dX8_ifHeard_1 (by decide) ?_
  exact rm_thrS (As := [.int p0, .int 3]) (rest := []) hc hX dX8_ifHeard_2 (x_needIndex hI x hfl p0 3 h0) ms_X8_37 (hn := rfl) (hst := rfl) (hw := Nat.le_of_ble_eq_true rfl) (hR := ⟨⟨rfl, rfl⟩, Nat.le_of_ble_eq_true rfl, Nat.le_of_ble_eq_true rfl⟩) (hnc := ⟨Nat.le_of_ble_eq_true rfl, Nat.le_of_ble_eq_true rfl⟩)

set_option maxHeartbeats 4000000 in
set_option maxRecDepth 100000 in
theorem x_ifHeard_2 {l : Launch} {D : va_G} {cy : Nat → ClassId} {ad : Ads} (hI : IJ ad) (x : Mem) (hfl : l.stackTraces = false) {d : Nat} (hd3 : d < 3) (p1 : Int32) (h0 : p1 < 0 ∨ 65535 < p1) : Ctx l yX8_ifHeard cX8_ifHeard 3 (some .int) rmx_X8_ifHeard D cy ad [.ref (ad 8 9 0), .int (nI (d)), .int p1] x "java/lang/IllegalArgumentException" := by
  refine rm_entryX hI (by decide) (Nat.le_of_ble_eq_true rfl) ?_
  intro p e s m args below meth c hc hX
  show RM _ _ _ _ _ _ _ _ _ _ _ _ _ _ _ _ _ [(0, .ref (ad 8 9 0)), (1, .int (nI (d))), (2, .int p1)] []
  refine rm_iload_n hc dX8_ifHeard_0 rfl rfl ?_
  refine rm_iconst (v := 3) hc dX8_ifHeard_1 (by decide) ?_
  refine rm_callvS (As := [.int (nI (d)), .int 3]) (rest := []) hc dX8_ifHeard_2 (c_X8_needIndex hI x (nI (d)) 3 (nI_pos (n := d) (by omega)) (nI_lt (a := d) (b := 3) (by omega) (by omega))) ms_X8_37 (hn := rfl) (hst := rfl) (hw := Nat.le_of_ble_eq_true rfl) (hR := ⟨⟨rfl, rfl⟩, Nat.le_of_ble_eq_true rfl, Nat.le_of_ble_eq_true rfl⟩) (hnc := ⟨Nat.zero_le _, Nat.zero_le _⟩) (fun y_1 h_1 => ?_)
  obtain rfl := h_1.symm
  refine rm_iload_n hc dX8_ifHeard_5 rfl rfl ?_
  refine rm_iconst (v := 0) hc dX8_ifHeard_6 (by decide) ?_
  refine rm_ldc hc dX8_ifHeard_7 kc_X8_178 ?_
  exact rm_thrS (As := [.int p1, .int 0, .int 65535]) (rest := []) hc hX dX8_ifHeard_9 (x_needRange hI x hfl p1 0 65535 h0) ms_X8_41 (hn := rfl) (hst := rfl) (hw := Nat.le_of_ble_eq_true rfl) (hR := ⟨⟨rfl, rfl⟩, Nat.le_of_ble_eq_true rfl, Nat.le_of_ble_eq_true rfl⟩) (hnc := ⟨Nat.le_of_ble_eq_true rfl, Nat.le_of_ble_eq_true rfl⟩)

set_option maxHeartbeats 4000000 in
set_option maxRecDepth 100000 in
theorem x_opensIn_1 {l : Launch} {D : va_G} {cy : Nat → ClassId} {ad : Ads} (hI : IJ ad) (x : Mem) (hfl : l.stackTraces = false) (p0 p1 : Int32) (h0 : p0 < 0 ∨ 4 ≤ p0) : Ctx l yX8_opensIn cX8_opensIn 3 (some .int) rmx_X8_opensIn D cy ad [.ref (ad 8 9 0), .int p0, .int p1] x "java/lang/IndexOutOfBoundsException" := by
  refine rm_entryX hI (by decide) (Nat.le_of_ble_eq_true rfl) ?_
  intro p e s m args below meth c hc hX
  show RM _ _ _ _ _ _ _ _ _ _ _ _ _ _ _ _ _ [(0, .ref (ad 8 9 0)), (1, .int p0), (2, .int p1)] []
  refine rm_iload_n hc dX8_opensIn_0 rfl rfl ?_
  refine rm_iconst (v := 4) hc dX8_opensIn_1 (by decide) ?_
  exact rm_thrS (As := [.int p0, .int 4]) (rest := []) hc hX dX8_opensIn_2 (x_needIndex hI x hfl p0 4 h0) ms_X8_37 (hn := rfl) (hst := rfl) (hw := Nat.le_of_ble_eq_true rfl) (hR := ⟨⟨rfl, rfl⟩, Nat.le_of_ble_eq_true rfl, Nat.le_of_ble_eq_true rfl⟩) (hnc := ⟨Nat.le_of_ble_eq_true rfl, Nat.le_of_ble_eq_true rfl⟩)

set_option maxHeartbeats 4000000 in
set_option maxRecDepth 100000 in
theorem x_opensIn_2 {l : Launch} {D : va_G} {cy : Nat → ClassId} {ad : Ads} (hI : IJ ad) (x : Mem) (hfl : l.stackTraces = false) {j : Nat} (hj : j < 4) (p1 : Int32) (h0 : p1 < 0 ∨ 3 ≤ p1) : Ctx l yX8_opensIn cX8_opensIn 3 (some .int) rmx_X8_opensIn D cy ad [.ref (ad 8 9 0), .int (nI (j)), .int p1] x "java/lang/IndexOutOfBoundsException" := by
  refine rm_entryX hI (by decide) (Nat.le_of_ble_eq_true rfl) ?_
  intro p e s m args below meth c hc hX
  show RM _ _ _ _ _ _ _ _ _ _ _ _ _ _ _ _ _ [(0, .ref (ad 8 9 0)), (1, .int (nI (j))), (2, .int p1)] []
  refine rm_iload_n hc dX8_opensIn_0 rfl rfl ?_
  refine rm_iconst (v := 4) hc dX8_opensIn_1 (by decide) ?_
  refine rm_callvS (As := [.int (nI (j)), .int 4]) (rest := []) hc dX8_opensIn_2 (c_X8_needIndex hI x (nI (j)) 4 (nI_pos (n := j) (by omega)) (nI_lt (a := j) (b := 4) (by omega) (by omega))) ms_X8_37 (hn := rfl) (hst := rfl) (hw := Nat.le_of_ble_eq_true rfl) (hR := ⟨⟨rfl, rfl⟩, Nat.le_of_ble_eq_true rfl, Nat.le_of_ble_eq_true rfl⟩) (hnc := ⟨Nat.zero_le _, Nat.zero_le _⟩) (fun y_1 h_1 => ?_)
  obtain rfl := h_1.symm
  refine rm_iload_n hc dX8_opensIn_5 rfl rfl ?_
  refine rm_iconst (v := 3) hc dX8_opensIn_6 (by decide) ?_
  exact rm_thrS (As := [.int p1, .int 3]) (rest := []) hc hX dX8_opensIn_7 (x_needIndex hI x hfl p1 3 h0) ms_X8_37 (hn := rfl) (hst := rfl) (hw := Nat.le_of_ble_eq_true rfl) (hR := ⟨⟨rfl, rfl⟩, Nat.le_of_ble_eq_true rfl, Nat.le_of_ble_eq_true rfl⟩) (hnc := ⟨Nat.le_of_ble_eq_true rfl, Nat.le_of_ble_eq_true rfl⟩)

set_option maxHeartbeats 4000000 in
set_option maxRecDepth 100000 in
theorem x_unheard_1 {l : Launch} {D : va_G} {cy : Nat → ClassId} {ad : Ads} (hI : IJ ad) (x : Mem) (hfl : l.stackTraces = false) (p0 p1 : Int32) (h0 : p0 < 0 ∨ 4 ≤ p0) : Ctx l yX8_unheard cX8_unheard 3 (some .int) rmx_X8_unheard D cy ad [.ref (ad 8 9 0), .int p0, .int p1] x "java/lang/IndexOutOfBoundsException" := by
  refine rm_entryX hI (by decide) (Nat.le_of_ble_eq_true rfl) ?_
  intro p e s m args below meth c hc hX
  show RM _ _ _ _ _ _ _ _ _ _ _ _ _ _ _ _ _ [(0, .ref (ad 8 9 0)), (1, .int p0), (2, .int p1)] []
  refine rm_iload_n hc dX8_unheard_0 rfl rfl ?_
  refine rm_iconst (v := 4) hc dX8_unheard_1 (by decide) ?_
  exact rm_thrS (As := [.int p0, .int 4]) (rest := []) hc hX dX8_unheard_2 (x_needIndex hI x hfl p0 4 h0) ms_X8_37 (hn := rfl) (hst := rfl) (hw := Nat.le_of_ble_eq_true rfl) (hR := ⟨⟨rfl, rfl⟩, Nat.le_of_ble_eq_true rfl, Nat.le_of_ble_eq_true rfl⟩) (hnc := ⟨Nat.le_of_ble_eq_true rfl, Nat.le_of_ble_eq_true rfl⟩)

set_option maxHeartbeats 4000000 in
set_option maxRecDepth 100000 in
theorem x_unheard_2 {l : Launch} {D : va_G} {cy : Nat → ClassId} {ad : Ads} (hI : IJ ad) (x : Mem) (hfl : l.stackTraces = false) {j : Nat} (hj : j < 4) (p1 : Int32) (h0 : p1 < 0 ∨ 3 ≤ p1) : Ctx l yX8_unheard cX8_unheard 3 (some .int) rmx_X8_unheard D cy ad [.ref (ad 8 9 0), .int (nI (j)), .int p1] x "java/lang/IndexOutOfBoundsException" := by
  refine rm_entryX hI (by decide) (Nat.le_of_ble_eq_true rfl) ?_
  intro p e s m args below meth c hc hX
  show RM _ _ _ _ _ _ _ _ _ _ _ _ _ _ _ _ _ [(0, .ref (ad 8 9 0)), (1, .int (nI (j))), (2, .int p1)] []
  refine rm_iload_n hc dX8_unheard_0 rfl rfl ?_
  refine rm_iconst (v := 4) hc dX8_unheard_1 (by decide) ?_
  refine rm_callvS (As := [.int (nI (j)), .int 4]) (rest := []) hc dX8_unheard_2 (c_X8_needIndex hI x (nI (j)) 4 (nI_pos (n := j) (by omega)) (nI_lt (a := j) (b := 4) (by omega) (by omega))) ms_X8_37 (hn := rfl) (hst := rfl) (hw := Nat.le_of_ble_eq_true rfl) (hR := ⟨⟨rfl, rfl⟩, Nat.le_of_ble_eq_true rfl, Nat.le_of_ble_eq_true rfl⟩) (hnc := ⟨Nat.zero_le _, Nat.zero_le _⟩) (fun y_1 h_1 => ?_)
  obtain rfl := h_1.symm
  refine rm_iload_n hc dX8_unheard_5 rfl rfl ?_
  refine rm_iconst (v := 3) hc dX8_unheard_6 (by decide) ?_
  exact rm_thrS (As := [.int p1, .int 3]) (rest := []) hc hX dX8_unheard_7 (x_needIndex hI x hfl p1 3 h0) ms_X8_37 (hn := rfl) (hst := rfl) (hw := Nat.le_of_ble_eq_true rfl) (hR := ⟨⟨rfl, rfl⟩, Nat.le_of_ble_eq_true rfl, Nat.le_of_ble_eq_true rfl⟩) (hnc := ⟨Nat.le_of_ble_eq_true rfl, Nat.le_of_ble_eq_true rfl⟩)
