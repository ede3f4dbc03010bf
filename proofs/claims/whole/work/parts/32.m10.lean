abbrev rm_X9_thrown : Room := { frames := 0, cells := 0, slots := 0, locals := 0 }
set_option maxHeartbeats 4000000 in
set_option maxRecDepth 100000 in
theorem c_X9_thrown {l : Launch} {D : va_G} {cy : Nat → ClassId} {ad : Ads} (hI : IJ ad) (x : Mem)  : Cti l yX9_thrown cX9_thrown 1 (some .int) rm_X9_thrown D cy ad [.ref (ad 15 14 0)] x (fun r y => r = x 15 2 ∧ y = x) := by
  refine rm_entry (Qc := Qi D cy ad (fun r y => r = x 15 2 ∧ y = x)) hI (by decide) (Nat.le_of_ble_eq_true rfl) ?_
  intro p e s m args below meth c hc
  show RM _ _ _ _ _ _ _ _ _ _ _ _ _ _ _ _ _ [(0, .ref (ad 15 14 0))] []
  refine rm_aload_n hc dX9_thrown_0 rfl rfl ?_
  refine rm_geti hc dX9_thrown_1 fl_X9_25 dm_14 rfl rfl (fun v_1 e_1 => ?_)
  exact rm_iret hc dX9_thrown_4 ⟨by subst_vars; rfl, rfl⟩

abbrev rm_X9_fails : Room := { frames := 0, cells := 0, slots := 0, locals := 0 }
set_option maxHeartbeats 4000000 in
set_option maxRecDepth 100000 in
theorem c_X9_fails {l : Launch} {D : va_G} {cy : Nat → ClassId} {ad : Ads} (hI : IJ ad) (x : Mem) (a : Int32) : Cti l yX9_fails cX9_fails 2 (some .int) rm_X9_fails D cy ad [.ref (ad 15 14 0), .int a] x (fun r y => r = 0 ∧ y = up x 15 2 a) := by
  refine rm_entry (Qc := Qi D cy ad (fun r y => r = 0 ∧ y = up x 15 2 a)) hI (by decide) (Nat.le_of_ble_eq_true rfl) ?_
  intro p e s m args below meth c hc
  show RM _ _ _ _ _ _ _ _ _ _ _ _ _ _ _ _ _ [(0, .ref (ad 15 14 0)), (1, .int a)] []
  refine rm_aload_n hc dX9_fails_0 rfl rfl ?_
  refine rm_iload_n hc dX9_fails_1 rfl rfl ?_
  refine rm_put hc dX9_fails_2 fl_X9_25 dm_14 rfl (Nat.le_of_ble_eq_true rfl) ft_9_6 rfl rfl so_14_6 (rm_nm (fun x_1 ex_1 => ?_))
  refine rm_iconst (v := 0) hc dX9_fails_5 (by decide) ?_
  exact rm_iret hc dX9_fails_6 ⟨rfl, by subst_vars; rfl⟩

abbrev rm_X9_in : Room := { frames := 0, cells := 0, slots := 0, locals := 0 }
set_option maxHeartbeats 4000000 in
set_option maxRecDepth 100000 in
theorem c_X9_in {l : Launch} {D : va_G} {cy : Nat → ClassId} {ad : Ads} (hI : IJ ad) (x : Mem) (a b c0 : Int32) : Cti l yX9_in cX9_in 3 (some .boolean) rm_X9_in D cy ad [.int a, .int b, .int c0] x (fun r y => r = inM a b c0 ∧ y = x) := by
  refine rm_entry (Qc := Qi D cy ad (fun r y => r = inM a b c0 ∧ y = x)) hI (by decide) (Nat.le_of_ble_eq_true rfl) ?_
  intro p e s m args below meth c hc
  show RM _ _ _ _ _ _ _ _ _ _ _ _ _ _ _ _ _ [(0, .int a), (1, .int b), (2, .int c0)] []
  refine rm_iload_n hc dX9_in_0 rfl rfl ?_
  refine rm_iload_n hc dX9_in_1 rfl rfl ?_
  refine rm_icmp_lt (tgt := 14) hc dX9_in_2 (by decide) (fun c_1 => ?_) (fun c_1 => ?_)
  · --T
    refine rm_iconst (v := 0) hc dX9_in_14 (by decide) ?_
    exact rm_zret hc dX9_in_15 rfl ⟨by subst_vars; simp [inM, *], rfl⟩
  · --F
    refine rm_iload_n hc dX9_in_5 rfl rfl ?_
    refine rm_iload_n hc dX9_in_6 rfl rfl ?_
    refine rm_icmp_gt (tgt := 14) hc dX9_in_7 (by decide) (fun c_2 => ?_) (fun c_2 => ?_)
    · --T
      refine rm_iconst (v := 0) hc dX9_in_14 (by decide) ?_
      exact rm_zret hc dX9_in_15 rfl ⟨by subst_vars; simp [inM, *], rfl⟩
    · --F
      refine rm_iconst (v := 1) hc dX9_in_10 (by decide) ?_
      refine rm_goto (tgt := 15) hc dX9_in_11 (by decide) ?_
      exact rm_zret hc dX9_in_15 rfl ⟨by subst_vars; simp [inM, *], rfl⟩

abbrev rm_X9_isFob : Room := { frames := 1, cells := 0, slots := 0, locals := 22 }
set_option maxHeartbeats 4000000 in
set_option maxRecDepth 100000 in
theorem c_X9_isFob {l : Launch} {D : va_G} {cy : Nat → ClassId} {ad : Ads} (hI : IJ ad) (x : Mem) (a : Int32) : Cti l yX9_isFob cX9_isFob 1 (some .boolean) rm_X9_isFob D cy ad [.int a] x (fun r y => r = inM a 0 3 ∧ y = x) := by
  refine rm_entry (Qc := Qi D cy ad (fun r y => r = inM a 0 3 ∧ y = x)) hI (by decide) (Nat.le_of_ble_eq_true rfl) ?_
  intro p e s m args below meth c hc
  show RM _ _ _ _ _ _ _ _ _ _ _ _ _ _ _ _ _ [(0, .int a)] []
  refine rm_iload_n hc dX9_isFob_0 rfl rfl ?_
  refine rm_iconst (v := 0) hc dX9_isFob_1 (by decide) ?_
  refine rm_iconst (v := 3) hc dX9_isFob_2 (by decide) ?_
  refine rm_calliS (As := [.int a, .int 0, .int 3]) (rest := []) hc dX9_isFob_3 (c_X9_in hI x a 0 3) ms_X9_29 (hn := rfl) (hst := rfl) (hw := Nat.le_of_ble_eq_true rfl) (hR := ⟨⟨rfl, rfl⟩, Nat.le_of_ble_eq_true rfl, Nat.le_of_ble_eq_true rfl⟩) (hnc := ⟨Nat.zero_le _, Nat.zero_le _⟩) (fun r_1 y_1 h_1 => ?_)
  obtain ⟨e_1, ey_1⟩ := h_1
  obtain rfl := ey_1.symm
  exact rm_zret hc dX9_isFob_6 (nrb (by rw [e_1]; exact inM_b)) ⟨e_1, rfl⟩

abbrev rm_X9_isDoor : Room := { frames := 1, cells := 0, slots := 0, locals := 22 }
set_option maxHeartbeats 4000000 in
set_option maxRecDepth 100000 in
theorem c_X9_isDoor {l : Launch} {D : va_G} {cy : Nat → ClassId} {ad : Ads} (hI : IJ ad) (x : Mem) (a : Int32) : Cti l yX9_isDoor cX9_isDoor 1 (some .boolean) rm_X9_isDoor D cy ad [.int a] x (fun r y => r = inM a 0 2 ∧ y = x) := by
  refine rm_entry (Qc := Qi D cy ad (fun r y => r = inM a 0 2 ∧ y = x)) hI (by decide) (Nat.le_of_ble_eq_true rfl) ?_
  intro p e s m args below meth c hc
  show RM _ _ _ _ _ _ _ _ _ _ _ _ _ _ _ _ _ [(0, .int a)] []
  refine rm_iload_n hc dX9_isDoor_0 rfl rfl ?_
  refine rm_iconst (v := 0) hc dX9_isDoor_1 (by decide) ?_
  refine rm_iconst (v := 2) hc dX9_isDoor_2 (by decide) ?_
  refine rm_calliS (As := [.int a, .int 0, .int 2]) (rest := []) hc dX9_isDoor_3 (c_X9_in hI x a 0 2) ms_X9_29 (hn := rfl) (hst := rfl) (hw := Nat.le_of_ble_eq_true rfl) (hR := ⟨⟨rfl, rfl⟩, Nat.le_of_ble_eq_true rfl, Nat.le_of_ble_eq_true rfl⟩) (hnc := ⟨Nat.zero_le _, Nat.zero_le _⟩) (fun r_1 y_1 h_1 => ?_)
  obtain ⟨e_1, ey_1⟩ := h_1
  obtain rfl := ey_1.symm
  exact rm_zret hc dX9_isDoor_6 (nrb (by rw [e_1]; exact inM_b)) ⟨e_1, rfl⟩

abbrev rm_X9_isSlot : Room := { frames := 2, cells := 0, slots := 0, locals := 42 }
set_option maxHeartbeats 4000000 in
set_option maxRecDepth 100000 in
theorem c_X9_isSlot {l : Launch} {D : va_G} {cy : Nat → ClassId} {ad : Ads} (hI : IJ ad) (x : Mem) (a b : Int32) : Cti l yX9_isSlot cX9_isSlot 2 (some .boolean) rm_X9_isSlot D cy ad [.int a, .int b] x (fun r y => r = isSl a b ∧ y = x) := by
  refine rm_entry (Qc := Qi D cy ad (fun r y => r = isSl a b ∧ y = x)) hI (by decide) (Nat.le_of_ble_eq_true rfl) ?_
  intro p e s m args below meth c hc
  show RM _ _ _ _ _ _ _ _ _ _ _ _ _ _ _ _ _ [(0, .int a), (1, .int b)] []
  refine rm_iload_n hc dX9_isSlot_0 rfl rfl ?_
  refine rm_calliS (As := [.int a]) (rest := []) hc dX9_isSlot_1 (c_X9_isDoor hI x a) ms_X9_33 (hn := rfl) (hst := rfl) (hw := Nat.le_of_ble_eq_true rfl) (hR := ⟨⟨rfl, rfl⟩, Nat.le_of_ble_eq_true rfl, Nat.le_of_ble_eq_true rfl⟩) (hnc := ⟨Nat.zero_le _, Nat.zero_le _⟩) (fun r_1 y_1 h_1 => ?_)
  obtain ⟨e_1, ey_1⟩ := h_1
  obtain rfl := ey_1.symm
  refine rm_if_eq (tgt := 20) hc dX9_isSlot_4 (by decide) (fun c_2 => ?_) (fun c_2 => ?_)
  · --T
    refine rm_iconst (v := 0) hc dX9_isSlot_20 (by decide) ?_
    exact rm_zret hc dX9_isSlot_21 rfl ⟨by subst_vars; simp_all [isSl], rfl⟩
  · --F
    refine rm_iload_n hc dX9_isSlot_7 rfl rfl ?_
    refine rm_iconst (v := 0) hc dX9_isSlot_8 (by decide) ?_
    refine rm_iconst (v := 3) hc dX9_isSlot_9 (by decide) ?_
    refine rm_calliS (As := [.int b, .int 0, .int 3]) (rest := []) hc dX9_isSlot_10 (c_X9_in hI x b 0 3) ms_X9_29 (hn := rfl) (hst := rfl) (hw := Nat.le_of_ble_eq_true rfl) (hR := ⟨⟨rfl, rfl⟩, Nat.le_of_ble_eq_true rfl, Nat.le_of_ble_eq_true rfl⟩) (hnc := ⟨Nat.zero_le _, Nat.zero_le _⟩) (fun r_3 y_3 h_3 => ?_)
    obtain ⟨e_3, ey_3⟩ := h_3
    obtain rfl := ey_3.symm
    refine rm_if_eq (tgt := 20) hc dX9_isSlot_13 (by decide) (fun c_4 => ?_) (fun c_4 => ?_)
    · --T
      refine rm_iconst (v := 0) hc dX9_isSlot_20 (by decide) ?_
      exact rm_zret hc dX9_isSlot_21 rfl ⟨by subst_vars; simp_all [isSl], rfl⟩
    · --F
      refine rm_iconst (v := 1) hc dX9_isSlot_16 (by decide) ?_
      refine rm_goto (tgt := 21) hc dX9_isSlot_17 (by decide) ?_
      exact rm_zret hc dX9_isSlot_21 rfl ⟨by subst_vars; simp_all [isSl], rfl⟩

abbrev rm_X9_slotAt : Room := { frames := 0, cells := 0, slots := 0, locals := 0 }
set_option maxHeartbeats 4000000 in
set_option maxRecDepth 100000 in
theorem c_X9_slotAt {l : Launch} {D : va_G} {cy : Nat → ClassId} {ad : Ads} (hI : IJ ad) (x : Mem) {d s0 : Nat} (hd3 : d < 3) (hs : s0 < 4) : Cti l yX9_slotAt cX9_slotAt 2 (some .int) rm_X9_slotAt D cy ad [.int (nI (d)), .int (nI (s0))] x (fun r y => r = nI (36 + 22 * d + 4 * s0) ∧ y = x) := by
  refine rm_entry (Qc := Qi D cy ad (fun r y => r = nI (36 + 22 * d + 4 * s0) ∧ y = x)) hI (by decide) (Nat.le_of_ble_eq_true rfl) ?_
  intro p e s m args below meth c hc
  show RM _ _ _ _ _ _ _ _ _ _ _ _ _ _ _ _ _ [(0, .int (nI (d))), (1, .int (nI (s0)))] []
  refine rm_bipush (v := 30) hc dX9_slotAt_0 (by decide) ?_
  refine rm_bipush (v := 22) hc dX9_slotAt_2 (by decide) ?_
  refine rm_iload_n hc dX9_slotAt_4 rfl rfl ?_
  refine rm_imul hc dX9_slotAt_5 (fun v_1 e_1 => ?_)
  obtain rfl : v_1 = (nI (22 * d)) := e_1.trans (nmul (m := 22) (n := d) (by omega))
  clear e_1
  refine rm_iadd hc dX9_slotAt_6 (fun v_2 e_2 => ?_)
  obtain rfl : v_2 = (nI (30 + 22 * d)) := e_2.trans (nadd (m := 30) (n := 22 * d) (by omega))
  clear e_2
  refine rm_bipush (v := 6) hc dX9_slotAt_7 (by decide) ?_
  refine rm_iadd hc dX9_slotAt_9 (fun v_3 e_3 => ?_)
  obtain rfl : v_3 = (nI (36 + 22 * d)) := e_3.trans (nadd (m := 30 + 22 * d) (n := 6) (by omega))
  clear e_3
  refine rm_iconst (v := 4) hc dX9_slotAt_10 (by decide) ?_
  refine rm_iload_n hc dX9_slotAt_11 rfl rfl ?_
  refine rm_imul hc dX9_slotAt_12 (fun v_4 e_4 => ?_)
  obtain rfl : v_4 = (nI (4 * s0)) := e_4.trans (nmul (m := 4) (n := s0) (by omega))
  clear e_4
  refine rm_iadd hc dX9_slotAt_13 (fun v_5 e_5 => ?_)
  obtain rfl : v_5 = (nI (36 + 22 * d + 4 * s0)) := e_5.trans (nadd (m := 36 + 22 * d) (n := 4 * s0) (by omega))
  clear e_5
  exact rm_iret hc dX9_slotAt_14 ⟨rfl, rfl⟩

abbrev rm_X9_copies : Room := { frames := 0, cells := 0, slots := 0, locals := 0 }
set_option maxHeartbeats 4000000 in
set_option maxRecDepth 100000 in
theorem c_X9_copies {l : Launch} {D : va_G} {cy : Nat → ClassId} {ad : Ads} (hI : IJ ad) (x : Mem) {kq : Nat} (hk5 : kq < 6) : Ctv l yX9_copies cX9_copies 5 none rm_X9_copies D cy ad [.ref (ad 10 15 0), .int 0, .ref (ad 12 16 0), .int (nI (96 * kq))] x (fun y => y = cpS x 12 (96 * kq) 10 (0) 96) := by
  refine rm_entry (Qc := Qv D cy ad (fun y => y = cpS x 12 (96 * kq) 10 (0) 96)) hI (by decide) (Nat.le_of_ble_eq_true rfl) ?_
  intro p e s m args below meth c hc
  show RM _ _ _ _ _ _ _ _ _ _ _ _ _ _ _ _ _ [(0, .ref (ad 10 15 0)), (1, .int 0), (2, .ref (ad 12 16 0)), (3, .int (nI (96 * kq)))] []
  refine rm_iconst (v := 0) hc dX9_copies_0 (by decide) ?_
  refine rm_istore (ls' := [(0, .ref (ad 10 15 0)), (1, .int 0), (2, .ref (ad 12 16 0)), (3, .int (nI (96 * kq))), (4, .int 0)]) hc dX9_copies_1 (by decide) rfl ?_
  have key3 : ∀ (f : Nat) (i : Nat) (zm : Mem), i + f = 96 → zm = cpS x 12 (96 * kq) 10 (0) i → RM p l e rm_X9_copies s m args below meth c 5 (AA ad s.heap.size) (GG D cy ad zm) 0 0 (QQ (Qv D cy ad (fun y => y = cpS x 12 (96 * kq) 10 (0) 96)) below args s ad) 3 [(0, .ref (ad 10 15 0)), (1, .int 0), (2, .ref (ad 12 16 0)), (3, .int (nI (96 * kq))), (4, .int (nI (i)))] [] := by
    intro f
    induction f with
    | zero =>
      intro i zm hif hz
      refine rm_iload hc dX9_copies_3 rfl ?_
      refine rm_bipush (v := 96) hc dX9_copies_5 (by decide) ?_
      refine rm_icmp_ge (tgt := 28) hc dX9_copies_7 (by decide) (fun _ => ?_) (fun h => absurd ((nI_leI (a := 96) (b := i) (by omega) (by omega)).mpr (by omega)) h)
      exact rm_vret hc dX9_copies_28 (by rw [hz, show i = 96 by omega])
    | succ f ih =>
      intro i zm hif hz
      refine rm_iload hc dX9_copies_3 rfl ?_
      refine rm_bipush (v := 96) hc dX9_copies_5 (by decide) ?_
      refine rm_icmp_ge (tgt := 28) hc dX9_copies_7 (by decide) (fun h => absurd h (fun h2 => absurd ((nI_leI (a := 96) (b := i) (by omega) (by omega)).mp h2) (by omega))) (fun _ => ?_)
      refine rm_aload_n hc dX9_copies_10 rfl rfl ?_
      refine rm_iload_n hc dX9_copies_11 rfl rfl ?_
      refine rm_iload hc dX9_copies_12 rfl ?_
      refine rm_iadd hc dX9_copies_14 (fun v_3 e_3 => ?_)
      obtain rfl : v_3 = (nI (i + 96 * kq)) := e_3.trans (nadd (m := 96 * kq) (n := i) (by omega))
      clear e_3
      refine rm_aload_n hc dX9_copies_15 rfl rfl ?_
      refine rm_iload_n hc dX9_copies_16 rfl rfl ?_
      refine rm_iload hc dX9_copies_17 rfl ?_
      refine rm_iadd hc dX9_copies_19 (fun v_4 e_4 => ?_)
      obtain rfl : v_4 = (nI (i)) := e_4.trans (nadd (m := 0) (n := i) (by omega))
      clear e_4
      refine rm_iald (i := i) hc dX9_copies_20 (dm_15 (by omega)) rfl (by omega) (by decide) rfl (fun v_5 e_5 => ?_)
      refine rm_iast (i := i + 96 * kq) hc dX9_copies_21 dm_16 rfl (by omega) (by decide) rfl so_16 (rm_nm (fun x_6 ex_6 => ?_))
      refine rm_iinc (v := (nI (i + 1))) (ls' := [(0, .ref (ad 10 15 0)), (1, .int 0), (2, .ref (ad 12 16 0)), (3, .int (nI (96 * kq))), (4, .int (nI (i + 1)))]) hc dX9_copies_22 rfl (nIj (by omega)) (by decide) rfl ?_
      refine rm_goto (tgt := 3) hc dX9_copies_25 (by decide) ?_
      exact ih (i + 1) _ (by omega) (cp_st (by omega) hz (by omega) (by omega) e_5 ex_6)
  exact key3 96 0 _ (by omega) cp_0

set_option maxHeartbeats 4000000 in
set_option maxRecDepth 100000 in
theorem c_X9_copies_u {l : Launch} {D : va_G} {cy : Nat → ClassId} {ad : Ads} (hI : IJ ad) (x : Mem) {kq : Nat} (hk5 : kq < 6) : Ctv l yX9_copies cX9_copies 5 none rm_X9_copies D cy ad [.ref (ad 12 16 0), .int (nI (96 * kq)), .ref (ad 10 15 0), .int 0] x (fun y => y = cpS x 10 (0) 12 (96 * kq) 96) := by
  refine rm_entry (Qc := Qv D cy ad (fun y => y = cpS x 10 (0) 12 (96 * kq) 96)) hI (by decide) (Nat.le_of_ble_eq_true rfl) ?_
  intro p e s m args below meth c hc
  show RM _ _ _ _ _ _ _ _ _ _ _ _ _ _ _ _ _ [(0, .ref (ad 12 16 0)), (1, .int (nI (96 * kq))), (2, .ref (ad 10 15 0)), (3, .int 0)] []
  refine rm_iconst (v := 0) hc dX9_copies_0 (by decide) ?_
  refine rm_istore (ls' := [(0, .ref (ad 12 16 0)), (1, .int (nI (96 * kq))), (2, .ref (ad 10 15 0)), (3, .int 0), (4, .int 0)]) hc dX9_copies_1 (by decide) rfl ?_
  have key3 : ∀ (f : Nat) (i : Nat) (zm : Mem), i + f = 96 → zm = cpS x 10 (0) 12 (96 * kq) i → RM p l e rm_X9_copies s m args below meth c 5 (AA ad s.heap.size) (GG D cy ad zm) 0 0 (QQ (Qv D cy ad (fun y => y = cpS x 10 (0) 12 (96 * kq) 96)) below args s ad) 3 [(0, .ref (ad 12 16 0)), (1, .int (nI (96 * kq))), (2, .ref (ad 10 15 0)), (3, .int 0), (4, .int (nI (i)))] [] := by
    intro f
    induction f with
    | zero =>
      intro i zm hif hz
      refine rm_iload hc dX9_copies_3 rfl ?_
      refine rm_bipush (v := 96) hc dX9_copies_5 (by decide) ?_
      refine rm_icmp_ge (tgt := 28) hc dX9_copies_7 (by decide) (fun _ => ?_) (fun h => absurd ((nI_leI (a := 96) (b := i) (by omega) (by omega)).mpr (by omega)) h)
      exact rm_vret hc dX9_copies_28 (by rw [hz, show i = 96 by omega])
    | succ f ih =>
      intro i zm hif hz
      refine rm_iload hc dX9_copies_3 rfl ?_
      refine rm_bipush (v := 96) hc dX9_copies_5 (by decide) ?_
      refine rm_icmp_ge (tgt := 28) hc dX9_copies_7 (by decide) (fun h => absurd h (fun h2 => absurd ((nI_leI (a := 96) (b := i) (by omega) (by omega)).mp h2) (by omega))) (fun _ => ?_)
      refine rm_aload_n hc dX9_copies_10 rfl rfl ?_
      refine rm_iload_n hc dX9_copies_11 rfl rfl ?_
      refine rm_iload hc dX9_copies_12 rfl ?_
      refine rm_iadd hc dX9_copies_14 (fun v_3 e_3 => ?_)
      obtain rfl : v_3 = (nI (i)) := e_3.trans (nadd (m := 0) (n := i) (by omega))
      clear e_3
      refine rm_aload_n hc dX9_copies_15 rfl rfl ?_
      refine rm_iload_n hc dX9_copies_16 rfl rfl ?_
      refine rm_iload hc dX9_copies_17 rfl ?_
      refine rm_iadd hc dX9_copies_19 (fun v_4 e_4 => ?_)
      obtain rfl : v_4 = (nI (i + 96 * kq)) := e_4.trans (nadd (m := 96 * kq) (n := i) (by omega))
      clear e_4
      refine rm_iald (i := i + 96 * kq) hc dX9_copies_20 dm_16 rfl (by omega) (by decide) rfl (fun v_5 e_5 => ?_)
      refine rm_iast (i := i) hc dX9_copies_21 (dm_15 (by omega)) rfl (by omega) (by decide) rfl (so_15 (by omega)) (rm_nm (fun x_6 ex_6 => ?_))
      refine rm_iinc (v := (nI (i + 1))) (ls' := [(0, .ref (ad 12 16 0)), (1, .int (nI (96 * kq))), (2, .ref (ad 10 15 0)), (3, .int 0), (4, .int (nI (i + 1)))]) hc dX9_copies_22 rfl (nIj (by omega)) (by decide) rfl ?_
      refine rm_goto (tgt := 3) hc dX9_copies_25 (by decide) ?_
      exact ih (i + 1) _ (by omega) (cp_st (by omega) hz (by omega) (by omega) e_5 ex_6)
  exact key3 96 0 _ (by omega) cp_0

set_option maxHeartbeats 4000000 in
set_option maxRecDepth 100000 in
theorem c_X9_copies_t {l : Launch} {D : va_G} {cy : Nat → ClassId} {ad : Ads} (hI : IJ ad) (x : Mem)  : Ctv l yX9_copies cX9_copies 5 none rm_X9_copies D cy ad [.ref (ad 10 15 0), .int 0, .ref (ad 11 15 0), .int 0] x (fun y => y = cpS x 11 (0) 10 (0) 96) := by
  refine rm_entry (Qc := Qv D cy ad (fun y => y = cpS x 11 (0) 10 (0) 96)) hI (by decide) (Nat.le_of_ble_eq_true rfl) ?_
  intro p e s m args below meth c hc
  show RM _ _ _ _ _ _ _ _ _ _ _ _ _ _ _ _ _ [(0, .ref (ad 10 15 0)), (1, .int 0), (2, .ref (ad 11 15 0)), (3, .int 0)] []
  refine rm_iconst (v := 0) hc dX9_copies_0 (by decide) ?_
  refine rm_istore (ls' := [(0, .ref (ad 10 15 0)), (1, .int 0), (2, .ref (ad 11 15 0)), (3, .int 0), (4, .int 0)]) hc dX9_copies_1 (by decide) rfl ?_
  have key3 : ∀ (f : Nat) (i : Nat) (zm : Mem), i + f = 96 → zm = cpS x 11 (0) 10 (0) i → RM p l e rm_X9_copies s m args below meth c 5 (AA ad s.heap.size) (GG D cy ad zm) 0 0 (QQ (Qv D cy ad (fun y => y = cpS x 11 (0) 10 (0) 96)) below args s ad) 3 [(0, .ref (ad 10 15 0)), (1, .int 0), (2, .ref (ad 11 15 0)), (3, .int 0), (4, .int (nI (i)))] [] := by
    intro f
    induction f with
    | zero =>
      intro i zm hif hz
      refine rm_iload hc dX9_copies_3 rfl ?_
      refine rm_bipush (v := 96) hc dX9_copies_5 (by decide) ?_
      refine rm_icmp_ge (tgt := 28) hc dX9_copies_7 (by decide) (fun _ => ?_) (fun h => absurd ((nI_leI (a := 96) (b := i) (by omega) (by omega)).mpr (by omega)) h)
      exact rm_vret hc dX9_copies_28 (by rw [hz, show i = 96 by omega])
    | succ f ih =>
      intro i zm hif hz
      refine rm_iload hc dX9_copies_3 rfl ?_
      refine rm_bipush (v := 96) hc dX9_copies_5 (by decide) ?_
      refine rm_icmp_ge (tgt := 28) hc dX9_copies_7 (by decide) (fun h => absurd h (fun h2 => absurd ((nI_leI (a := 96) (b := i) (by omega) (by omega)).mp h2) (by omega))) (fun _ => ?_)
      refine rm_aload_n hc dX9_copies_10 rfl rfl ?_
      refine rm_iload_n hc dX9_copies_11 rfl rfl ?_
      refine rm_iload hc dX9_copies_12 rfl ?_
      refine rm_iadd hc dX9_copies_14 (fun v_3 e_3 => ?_)
      obtain rfl : v_3 = (nI (i)) := e_3.trans (nadd (m := 0) (n := i) (by omega))
      clear e_3
      refine rm_aload_n hc dX9_copies_15 rfl rfl ?_
      refine rm_iload_n hc dX9_copies_16 rfl rfl ?_
      refine rm_iload hc dX9_copies_17 rfl ?_
      refine rm_iadd hc dX9_copies_19 (fun v_4 e_4 => ?_)
      obtain rfl : v_4 = (nI (i)) := e_4.trans (nadd (m := 0) (n := i) (by omega))
      clear e_4
      refine rm_iald (i := i) hc dX9_copies_20 (dm_15 (by omega)) rfl (by omega) (by decide) rfl (fun v_5 e_5 => ?_)
      refine rm_iast (i := i) hc dX9_copies_21 (dm_15 (by omega)) rfl (by omega) (by decide) rfl (so_15 (by omega)) (rm_nm (fun x_6 ex_6 => ?_))
      refine rm_iinc (v := (nI (i + 1))) (ls' := [(0, .ref (ad 10 15 0)), (1, .int 0), (2, .ref (ad 11 15 0)), (3, .int 0), (4, .int (nI (i + 1)))]) hc dX9_copies_22 rfl (nIj (by omega)) (by decide) rfl ?_
      refine rm_goto (tgt := 3) hc dX9_copies_25 (by decide) ?_
      exact ih (i + 1) _ (by omega) (cp_st (by omega) hz (by omega) (by omega) e_5 ex_6)
  exact key3 96 0 _ (by omega) cp_0

abbrev rm_X9_saves : Room := { frames := 1, cells := 0, slots := 0, locals := 24 }
set_option maxHeartbeats 4000000 in
set_option maxRecDepth 100000 in
theorem c_X9_saves {l : Launch} {D : va_G} {cy : Nat → ClassId} {ad : Ads} (hI : IJ ad) (x : Mem) {kq : Nat} (hk6 : kq ≤ 6) (hkq : x 15 0 = nI kq) : Ctv l yX9_saves cX9_saves 2 none rm_X9_saves D cy ad [.ref (ad 15 14 0)] x (fun y => y = svM x kq) := by
  refine rm_entry (Qc := Qv D cy ad (fun y => y = svM x kq)) hI (by decide) (Nat.le_of_ble_eq_true rfl) ?_
  intro p e s m args below meth c hc
  show RM _ _ _ _ _ _ _ _ _ _ _ _ _ _ _ _ _ [(0, .ref (ad 15 14 0))] []
  refine rm_aload_n hc dX9_saves_0 rfl rfl ?_
  refine rm_geti hc dX9_saves_1 fl_X9_37 dm_14 rfl rfl (fun v_1 e_1 => ?_)
  obtain rfl : v_1 = nI kq := e_1.trans hkq
  refine rm_bipush (v := 6) hc dX9_saves_4 (by decide) ?_
  rcases Nat.lt_or_ge kq 6 with z6 | z6
  · --
    refine rm_icmp_ne (tgt := 49) hc dX9_saves_6 (by decide) (fun _ => ?_) (fun h => absurd h (fun h2 => absurd ((nI_eq (a := kq) (b := 6) (by omega) (by omega)).mp h2) (by omega)))
    refine rm_aload_n hc dX9_saves_49 rfl rfl ?_
    refine rm_get hc dX9_saves_50 fl_X9_7 dm_14 rfl rfl ?_
    refine rm_iconst (v := 0) hc dX9_saves_53 (by decide) ?_
    refine rm_aload_n hc dX9_saves_54 rfl rfl ?_
    refine rm_get hc dX9_saves_55 fl_X9_16 dm_14 rfl rfl ?_
    refine rm_bipush (v := 96) hc dX9_saves_58 (by decide) ?_
    refine rm_aload_n hc dX9_saves_60 rfl rfl ?_
    refine rm_geti hc dX9_saves_61 fl_X9_37 dm_14 rfl rfl (fun v_3 e_3 => ?_)
    obtain rfl : v_3 = nI kq := by rw [e_3]; first | exact hkq | (subst_vars; first | exact hkq | (rw [cpS_b (by omega)]; exact hkq))
    refine rm_imul hc dX9_saves_64 (fun v_4 e_4 => ?_)
    obtain rfl : v_4 = (nI (96 * kq)) := e_4.trans (nmul (m := 96) (n := kq) (by omega))
    clear e_4
    refine rm_callvS (As := [.ref (ad 10 15 0), .int 0, .ref (ad 12 16 0), .int (nI (96 * kq))]) (rest := []) hc dX9_saves_65 (c_X9_copies hI x (kq := kq) z6) ms_X9_40 (hn := rfl) (hst := rfl) (hw := Nat.le_of_ble_eq_true rfl) (hR := ⟨⟨rfl, rfl⟩, Nat.le_of_ble_eq_true rfl, Nat.le_of_ble_eq_true rfl⟩) (hnc := ⟨Nat.zero_le _, Nat.zero_le _⟩) (fun y_5 h_5 => ?_)
    refine rm_aload_n hc dX9_saves_68 rfl rfl ?_
    refine rm_dup hc dX9_saves_69 rfl ?_
    refine rm_geti hc dX9_saves_70 fl_X9_37 dm_14 rfl rfl (fun v_6 e_6 => ?_)
    obtain rfl : v_6 = nI kq := by rw [e_6]; first | exact hkq | (subst_vars; first | exact hkq | (rw [cpS_b (by omega)]; exact hkq))
    refine rm_iconst (v := 1) hc dX9_saves_73 (by decide) ?_
    refine rm_iadd hc dX9_saves_74 (fun v_7 e_7 => ?_)
    obtain rfl : v_7 = (nI (kq + 1)) := e_7.trans (nadd (m := kq) (n := 1) (by omega))
    clear e_7
    refine rm_put hc dX9_saves_75 fl_X9_37 dm_14 rfl (Nat.le_of_ble_eq_true rfl) ft_9_3 rfl rfl so_14_3 (rm_nm (fun x_8 ex_8 => ?_))
    exact rm_vret hc dX9_saves_78 (by rw [svM_lt z6]; subst_vars; rfl)
  · --
    obtain rfl : kq = 6 := by omega
    refine rm_icmp_ne (tgt := 49) hc dX9_saves_6 (by decide) (fun h => absurd rfl h) (fun _ => ?_)
    refine rm_iconst (v := 0) hc dX9_saves_9 (by decide) ?_
    refine rm_istore_n (ls' := [(0, .ref (ad 15 14 0)), (1, .int 0)]) hc dX9_saves_10 rfl (by decide) rfl ?_
    have key11 : ∀ (f : Nat) (i : Nat) (zm : Mem), i + f = 480 → zm = shP x i → RM p l e rm_X9_saves s m args below meth c 2 (AA ad s.heap.size) (GG D cy ad zm) 0 0 (QQ (Qv D cy ad (fun y => y = svM x 6)) below args s ad) 11 [(0, .ref (ad 15 14 0)), (1, .int (nI (i)))] [] := by
      intro f
      induction f with
      | zero =>
        intro i zm hif hz
        obtain rfl : i = 480 := by omega
        refine rm_iload_n hc dX9_saves_11 rfl rfl ?_
        refine rm_sipush (v := 480) hc dX9_saves_12 (by decide) ?_
        refine rm_icmp_ge (tgt := 39) hc dX9_saves_15 (by decide) (fun _ => ?_) (fun h => absurd (by decide) h)
        refine rm_aload_n hc dX9_saves_39 rfl rfl ?_
        refine rm_dup hc dX9_saves_40 rfl ?_
        refine rm_geti hc dX9_saves_41 fl_X9_37 dm_14 rfl rfl (fun v_10 e_10 => ?_)
        obtain rfl : v_10 = 6 := by rw [e_10, hz]; exact hkq
        refine rm_iconst (v := 1) hc dX9_saves_44 (by decide) ?_
        refine rm_isub hc dX9_saves_45 (fun v_11 e_11 => ?_)
        obtain rfl : v_11 = 5 := e_11.trans (by decide)
        clear e_11
        refine rm_put hc dX9_saves_46 fl_X9_37 dm_14 rfl (Nat.le_of_ble_eq_true rfl) ft_9_3 rfl rfl so_14_3 (rm_nm (fun x_12 ex_12 => ?_))
        refine rm_aload_n hc dX9_saves_49 rfl rfl ?_
        refine rm_get hc dX9_saves_50 fl_X9_7 dm_14 rfl rfl ?_
        refine rm_iconst (v := 0) hc dX9_saves_53 (by decide) ?_
        refine rm_aload_n hc dX9_saves_54 rfl rfl ?_
        refine rm_get hc dX9_saves_55 fl_X9_16 dm_14 rfl rfl ?_
        refine rm_bipush (v := 96) hc dX9_saves_58 (by decide) ?_
        refine rm_aload_n hc dX9_saves_60 rfl rfl ?_
        refine rm_geti hc dX9_saves_61 fl_X9_37 dm_14 rfl rfl (fun v_13 e_13 => ?_)
        obtain rfl : v_13 = 5 := by rw [e_13, ex_12]; exact up_s _ _ _ _
        refine rm_imul hc dX9_saves_64 (fun v_14 e_14 => ?_)
        obtain rfl : v_14 = 480 := e_14.trans (by decide)
        clear e_14
        refine rm_callvS (As := [.ref (ad 10 15 0), .int 0, .ref (ad 12 16 0), .int 480]) (rest := []) hc dX9_saves_65 (c_X9_copies hI x_12 (kq := 5) (by omega)) ms_X9_40 (hn := rfl) (hst := rfl) (hw := Nat.le_of_ble_eq_true rfl) (hR := ⟨⟨rfl, rfl⟩, Nat.le_of_ble_eq_true rfl, Nat.le_of_ble_eq_true rfl⟩) (hnc := ⟨Nat.zero_le _, Nat.zero_le _⟩) (fun y_15 h_15 => ?_)
        refine rm_aload_n hc dX9_saves_68 rfl rfl ?_
        refine rm_dup hc dX9_saves_69 rfl ?_
        refine rm_geti hc dX9_saves_70 fl_X9_37 dm_14 rfl rfl (fun v_16 e_16 => ?_)
        obtain rfl : v_16 = 5 := by rw [e_16]; subst_vars; rw [cpS_b (by omega)]; exact up_s _ _ _ _
        refine rm_iconst (v := 1) hc dX9_saves_73 (by decide) ?_
        refine rm_iadd hc dX9_saves_74 (fun v_17 e_17 => ?_)
        obtain rfl : v_17 = 6 := e_17.trans (by decide)
        clear e_17
        refine rm_put hc dX9_saves_75 fl_X9_37 dm_14 rfl (Nat.le_of_ble_eq_true rfl) ft_9_3 rfl rfl so_14_3 (rm_nm (fun x_18 ex_18 => ?_))
        exact rm_vret hc dX9_saves_78 (by rw [svM_6]; subst_vars; rfl)
      | succ f ih =>
        intro i zm hif hz
        refine rm_iload_n hc dX9_saves_11 rfl rfl ?_
        refine rm_sipush (v := 480) hc dX9_saves_12 (by decide) ?_
        refine rm_icmp_ge (tgt := 39) hc dX9_saves_15 (by decide) (fun h => absurd h (fun h2 => absurd ((nI_leI (a := 480) (b := i) (by omega) (by omega)).mp h2) (by omega))) (fun _ => ?_)
        refine rm_aload_n hc dX9_saves_18 rfl rfl ?_
        refine rm_get hc dX9_saves_19 fl_X9_16 dm_14 rfl rfl ?_
        refine rm_iload_n hc dX9_saves_22 rfl rfl ?_
        refine rm_aload_n hc dX9_saves_23 rfl rfl ?_
        refine rm_get hc dX9_saves_24 fl_X9_16 dm_14 rfl rfl ?_
        refine rm_iload_n hc dX9_saves_27 rfl rfl ?_
        refine rm_bipush (v := 96) hc dX9_saves_28 (by decide) ?_
        refine rm_iadd hc dX9_saves_30 (fun v_20 e_20 => ?_)
        obtain rfl : v_20 = (nI (i + 96)) := e_20.trans (nadd (m := i) (n := 96) (by omega))
        clear e_20
        refine rm_iald (i := i + 96) hc dX9_saves_31 dm_16 rfl (by omega) (by decide) rfl (fun v_21 e_21 => ?_)
        refine rm_iast (i := i) hc dX9_saves_32 dm_16 rfl (by omega) (by decide) rfl so_16 (rm_nm (fun x_22 ex_22 => ?_))
        refine rm_iinc (v := (nI (i + 1))) (ls' := [(0, .ref (ad 15 14 0)), (1, .int (nI (i + 1)))]) hc dX9_saves_33 rfl (nIj (by omega)) (by decide) rfl ?_
        refine rm_goto (tgt := 11) hc dX9_saves_36 (by decide) ?_
        exact ih (i + 1) _ (by omega) (shP_st hz e_21 ex_22)
    exact key11 480 0 _ (by omega) shP_0

abbrev rm_X9_numberOf : Room := { frames := 0, cells := 0, slots := 0, locals := 0 }
set_option maxHeartbeats 4000000 in
set_option maxRecDepth 100000 in
theorem c_X9_numberOf {l : Launch} {D : va_G} {cy : Nat → ClassId} {ad : Ads} (hI : IJ ad) (x : Mem) {a b : Nat} (ha : a < 10000) (hb : b < 10000) : Cti l yX9_numberOf cX9_numberOf 2 (some .int) rm_X9_numberOf D cy ad [.int (nI (a)), .int (nI (b))] x (fun r y => r = nu (nI a) (nI b) ∧ y = x) := by
  refine rm_entry (Qc := Qi D cy ad (fun r y => r = nu (nI a) (nI b) ∧ y = x)) hI (by decide) (Nat.le_of_ble_eq_true rfl) ?_
  intro p e s m args below meth c hc
  show RM _ _ _ _ _ _ _ _ _ _ _ _ _ _ _ _ _ [(0, .int (nI (a))), (1, .int (nI (b)))] []
  refine rm_iload_n hc dX9_numberOf_0 rfl rfl ?_
  refine rm_ldc hc dX9_numberOf_1 kc_X9_48 ?_
  refine rm_imul hc dX9_numberOf_3 (fun v_1 e_1 => ?_)
  obtain rfl : v_1 = (nI (40503 * b)) := e_1.trans (nmul (m := b) (n := 40503) (by omega))
  clear e_1
  refine rm_iload_n hc dX9_numberOf_4 rfl rfl ?_
  refine rm_sipush (v := 7919) hc dX9_numberOf_5 (by decide) ?_
  refine rm_imul hc dX9_numberOf_8 (fun v_2 e_2 => ?_)
  obtain rfl : v_2 = (nI (7919 * a)) := e_2.trans (nmul (m := a) (n := 7919) (by omega))
  clear e_2
  refine rm_iadd hc dX9_numberOf_9 (fun v_3 e_3 => ?_)
  obtain rfl : v_3 = (nI (7919 * a + 40503 * b)) := e_3.trans (nadd (m := 40503 * b) (n := 7919 * a) (by omega))
  clear e_3
  refine rm_iload_n hc dX9_numberOf_10 rfl rfl ?_
  refine rm_bipush (v := 31) hc dX9_numberOf_11 (by decide) ?_
  refine rm_imul hc dX9_numberOf_13 (fun v_4 e_4 => ?_)
  obtain rfl : v_4 = (nI (31 * a)) := e_4.trans (nmul (m := a) (n := 31) (by omega))
  clear e_4
  refine rm_iload_n hc dX9_numberOf_14 rfl rfl ?_
  refine rm_iadd hc dX9_numberOf_15 (fun v_5 e_5 => ?_)
  obtain rfl : v_5 = (nI (31 * a + b)) := e_5.trans (nadd (m := 31 * a) (n := b) (by omega))
  clear e_5
  refine rm_ixor hc dX9_numberOf_16 (fun v_6 e_6 => ?_)
  refine rm_ldc hc dX9_numberOf_17 kc_X9_49 ?_
  refine rm_irem hc dX9_numberOf_19 (by decide) (fun v_7 e_7 => ?_)
  exact rm_iret hc dX9_numberOf_20 ⟨by subst_vars; rw [nu_n]; exact nuM (by omega) (by omega), rfl⟩

abbrev rm_X9_ahead : Room := { frames := 0, cells := 0, slots := 0, locals := 0 }
set_option maxHeartbeats 4000000 in
set_option maxRecDepth 100000 in
theorem c_X9_ahead {l : Launch} {D : va_G} {cy : Nat → ClassId} {ad : Ads} (hI : IJ ad) (x : Mem) {a b : Nat} (ha : a < 10000) (hb : b < 2 ^ 20) : Cti l yX9_ahead cX9_ahead 2 (some .int) rm_X9_ahead D cy ad [.int (nI (a)), .int (nI (b))] x (fun r y => r = nI ((a + b) % 10000) ∧ y = x) := by
  refine rm_entry (Qc := Qi D cy ad (fun r y => r = nI ((a + b) % 10000) ∧ y = x)) hI (by decide) (Nat.le_of_ble_eq_true rfl) ?_
  intro p e s m args below meth c hc
  show RM _ _ _ _ _ _ _ _ _ _ _ _ _ _ _ _ _ [(0, .int (nI (a))), (1, .int (nI (b)))] []
  refine rm_iload_n hc dX9_ahead_0 rfl rfl ?_
  refine rm_iload_n hc dX9_ahead_1 rfl rfl ?_
  refine rm_iadd hc dX9_ahead_2 (fun v_1 e_1 => ?_)
  obtain rfl : v_1 = (nI (a + b)) := e_1.trans (nadd (m := a) (n := b) (by omega))
  clear e_1
  refine rm_sipush (v := 10000) hc dX9_ahead_3 (by decide) ?_
  refine rm_irem hc dX9_ahead_6 (by decide) (fun v_2 e_2 => ?_)
  exact rm_iret hc dX9_ahead_7 ⟨by subst_vars; exact irem10k (by omega), rfl⟩

abbrev rm_X9_isLocked : Room := { frames := 0, cells := 0, slots := 0, locals := 0 }
set_option maxHeartbeats 4000000 in
set_option maxRecDepth 100000 in
theorem c_X9_isLocked {l : Launch} {D : va_G} {cy : Nat → ClassId} {ad : Ads} (hI : IJ ad) (x : Mem) {k d : Nat} (hk : k = 10 ∨ k = 11) (hd3 : d < 3) : Cti l yX9_isLocked cX9_isLocked 2 (some .boolean) rm_X9_isLocked D cy ad [.ref (ad k 15 0), .int (nI (d))] x (fun r y => r = lockS (x k 2) (x k (31 + 22 * d)) ∧ y = x) := by
  refine rm_entry (Qc := Qi D cy ad (fun r y => r = lockS (x k 2) (x k (31 + 22 * d)) ∧ y = x)) hI (by decide) (Nat.le_of_ble_eq_true rfl) ?_
  intro p e s m args below meth c hc
  show RM _ _ _ _ _ _ _ _ _ _ _ _ _ _ _ _ _ [(0, .ref (ad k 15 0)), (1, .int (nI (d)))] []
  refine rm_aload_n hc dX9_isLocked_0 rfl rfl ?_
  refine rm_iconst (v := 2) hc dX9_isLocked_1 (by decide) ?_
  refine rm_iald (i := 2) hc dX9_isLocked_2 (dm_15 (by omega)) rfl (by omega) (by decide) rfl (fun v_1 e_1 => ?_)
  refine rm_if_le (tgt := 27) hc dX9_isLocked_3 (by decide) (fun c_2 => ?_) (fun c_2 => ?_)
  · --T
    refine rm_iconst (v := 0) hc dX9_isLocked_27 (by decide) ?_
    exact rm_zret hc dX9_isLocked_28 rfl ⟨by subst_vars; simp [lockS, *], rfl⟩
  · --F
    refine rm_aload_n hc dX9_isLocked_6 rfl rfl ?_
    refine rm_bipush (v := 30) hc dX9_isLocked_7 (by decide) ?_
    refine rm_bipush (v := 22) hc dX9_isLocked_9 (by decide) ?_
    refine rm_iload_n hc dX9_isLocked_11 rfl rfl ?_
    refine rm_imul hc dX9_isLocked_12 (fun v_3 e_3 => ?_)
    obtain rfl : v_3 = (nI (22 * d)) := e_3.trans (nmul (m := 22) (n := d) (by omega))
    clear e_3
    refine rm_iadd hc dX9_isLocked_13 (fun v_4 e_4 => ?_)
    obtain rfl : v_4 = (nI (30 + 22 * d)) := e_4.trans (nadd (m := 30) (n := 22 * d) (by omega))
    clear e_4
    refine rm_iconst (v := 1) hc dX9_isLocked_14 (by decide) ?_
    refine rm_iadd hc dX9_isLocked_15 (fun v_5 e_5 => ?_)
    obtain rfl : v_5 = (nI (31 + 22 * d)) := e_5.trans (nadd (m := 30 + 22 * d) (n := 1) (by omega))
    clear e_5
    refine rm_iald (i := 31 + 22 * d) hc dX9_isLocked_16 (dm_15 (by omega)) rfl (by omega) (by decide) rfl (fun v_6 e_6 => ?_)
    refine rm_aload_n hc dX9_isLocked_17 rfl rfl ?_
    refine rm_iconst (v := 2) hc dX9_isLocked_18 (by decide) ?_
    refine rm_iald (i := 2) hc dX9_isLocked_19 (dm_15 (by omega)) rfl (by omega) (by decide) rfl (fun v_7 e_7 => ?_)
    refine rm_icmp_lt (tgt := 27) hc dX9_isLocked_20 (by decide) (fun c_8 => ?_) (fun c_8 => ?_)
    · --T
      refine rm_iconst (v := 0) hc dX9_isLocked_27 (by decide) ?_
      exact rm_zret hc dX9_isLocked_28 rfl ⟨by subst_vars; simp [lockS, *], rfl⟩
    · --F
      refine rm_iconst (v := 1) hc dX9_isLocked_23 (by decide) ?_
      refine rm_goto (tgt := 28) hc dX9_isLocked_24 (by decide) ?_
      exact rm_zret hc dX9_isLocked_28 rfl ⟨by subst_vars; simp [lockS, *], rfl⟩
