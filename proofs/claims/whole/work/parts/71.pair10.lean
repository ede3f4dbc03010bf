/-! ===== looks, on both sides ===== -/
theorem pr_look {l : Launch} {D : va_G} {cy : Nat → ClassId} {ad : Ads} {x : Mem} {B : Nat} {yl : MethodName} {cl : ByteArray} {nl : Nat} {hh : List (Nat × Nat × Nat × Nat)} {rml : Room} {Asl : List Value} {ym : MethodName} {cm : ByteArray} {nm : Nat} {rmm : Room} {Asm : List Value} {r0 : Int32} {P : Int32 → Mem → Prop} (h : INV x x B)
    (hw : Ctw l yl cl nl hh rml D cy ad Asl x (fun r y => r = 0 ∧ ∃ v z, P v z ∧ y = up z 16 0 v)) (hP : ∀ v z, P v z → v = r0 ∧ E7 x z)
    (hm : ∀ y1 : Mem, y1 10 = x 10 → y1 15 = x 15 → ∃ P2 : Int32 → Mem → Prop, Cti l ym cm nm (some .int) rmm D cy ad Asm y1 P2 ∧ ∀ r y, P2 r y → r = r0 ∧ M11 (T0 y1) y) : PR l D cy ad x B yl cl nl hh rml Asl ym cm nm rmm Asm := by
  refine ⟨_, hw, fun k y1 hk => ?_⟩
  obtain ⟨e1, v, z, hp, hy⟩ := hk
  obtain ⟨hv, hE⟩ := hP _ _ hp
  have yx : ∀ k, k ≠ 7 → k ≠ 16 → y1 k = x k := fun k k7 k16 => by
    rw [hy, show up z 16 0 v k = z k from funext fun n => up_b _ _ _ k16]
    exact hE k k7
  obtain ⟨P2, w4, w5⟩ := hm y1 (yx 10 (by omega) (by omega)) (yx 15 (by omega) (by omega))
  refine ⟨_, w4, fun b y2 hb => ?_⟩
  obtain ⟨hb1, hM⟩ := w5 _ _ hb
  have yb : ∀ k, k ≠ 15 → k ≠ 11 → y2 k = y1 k := fun k k15 k11 => (hM.blk k15 k11).trans (T0_b k15)
  have y15 : ∀ n, n ≠ 2 → n ≠ 6 → n ≠ 7 → y2 15 n = x 15 n := fun n n2 n6 n7 => by
    rw [hM 15 n (Or.inl (by omega)) (fun q => q.2.elim n6 n7), show T0 y1 15 n = y1 15 n from up_n _ _ n2, yx 15 (by omega) (by omega)]
  have yk : ∀ k, k ≠ 15 → k ≠ 11 → k ≠ 7 → k ≠ 16 → y2 k = x k := fun k k15 k11 k7 k16 => (yb k k15 k11).trans (yx k k7 k16)
  refine ⟨?_, fun _ => ?_, h.fr (by omega) (fun k hk => yk k (by omega) (by omega) (by omega) (by omega)) (yk 8 (by omega) (by omega) (by omega) (by omega)) (yk 9 (by omega) (by omega) (by omega) (by omega)) (yk 10 (by omega) (by omega) (by omega) (by omega)) (yk 12 (by omega) (by omega) (by omega) (by omega)) (yk 13 (by omega) (by omega) (by omega) (by omega)) (y15 0 (by omega) (by omega) (by omega)) (y15 1 (by omega) (by omega) (by omega))⟩
  · rw [hM 15 2 (Or.inl (by omega)) (fun q => by omega), e1]
    exact up_s _ _ _ _
  · rw [yb 16 (by omega) (by omega), hy, up_s, hv, hb1]
theorem e7_of {x y : Mem} (h : y = x) : E7 x y := by
  rw [h]
  exact E7.rf _
theorem m11_of {u y : Mem} (h : y = u) : M11 u y := by
  rw [h]
  exact M11.rf _
theorem pr_fob {l : Launch} {D : va_G} {cy : Nat → ClassId} {ad : Ads} (hI : IJ ad) (hfl : l.stackTraces = false) {x : Mem} {B : Nat} (h : INV x x B) (p0 p1 : Int32) :
    PR l D cy ad x B yL_fob cL_fob 5 hh_fob rmw_fob [.ref (ad 8 9 0), .int p0, .int p1, .ref (ad 16 19 0)] yX9_fob cX9_fob 3 rm_X9_fob [.ref (ad 15 14 0), .int p0, .int p1] := by
  have h' := h
  obtain ⟨hR, ⟨mm, hG⟩, -, -, -⟩ := h'
  rcases rg_or p0 4 (by omega) with h0 | ⟨j, hj, rfl⟩
  · exact pr_fail h (by decide) (w_fob_1 hI x p0 p1 (x_fob_1 hI x hfl p0 p1 h0)) (c_X9_fob_1 hI x p0 p1 (inM_o (n := 3) rfl (by omega) h0))
  · rcases rg_hi (v := p1) (n := 4) (hi := 4) rfl (by omega) with h1 | ⟨m1, m2, w, hw, rfl⟩
    · exact pr_fail h (by decide) (w_fob_2 hI x (nI j) p1 (x_fob_2 hI x hfl hj p1 h1)) (c_X9_fob_2 hI x hj p1 (inM_h h1))
    · refine pr_look h (w_fob hI x (nI j) (nI w) (c_X8_fob hI x hj (nI w) m1 m2)) (fun v z q => ⟨q.1, e7_of q.2⟩) (fun y1 y10 y15 => ?_)
      have hR1 : Rl (x 0) (y1 10) := by rw [y10]; exact hR
      have e := lkF_rl (w := w) hR1 hj (by omega)
      have fin : ∀ r y, (r = ofF y1 j w ∧ y = T0 y1) → r = lookFob x 0 j (nI w) ∧ M11 (T0 y1) y := fun r y q => ⟨q.1.trans e.symm, m11_of q.2⟩
      rcases (show w = 0 ∨ w = 1 ∨ w = 2 ∨ w = 3 ∨ w = 4 by omega) with q | q | q | q | q <;> subst q
      · exact ⟨_, c_X9_fob_o0 hI y1 hj, fin⟩
      · exact ⟨_, c_X9_fob_o1 hI y1 hj, fin⟩
      · exact ⟨_, c_X9_fob_o2 hI y1 hj, fin⟩
      · exact ⟨_, c_X9_fob_o3 hI y1 hj (by rw [y10]; exact hG.iv.2.1), fin⟩
      · exact ⟨_, c_X9_fob_o4 hI y1 hj, fin⟩
theorem pr_slot {l : Launch} {D : va_G} {cy : Nat → ClassId} {ad : Ads} (hI : IJ ad) (hfl : l.stackTraces = false) {x : Mem} {B : Nat} (h : INV x x B) (p0 p1 p2 : Int32) :
    PR l D cy ad x B yL_slot cL_slot 6 hh_slot rmw_slot [.ref (ad 8 9 0), .int p0, .int p1, .int p2, .ref (ad 16 19 0)] yX9_slot cX9_slot 4 rm_X9_slot [.ref (ad 15 14 0), .int p0, .int p1, .int p2] := by
  have h' := h
  obtain ⟨hR, ⟨mm, hG⟩, -, -, -⟩ := h'
  rcases rg_or p0 3 (by omega) with h0 | ⟨d, hd, rfl⟩
  · exact pr_fail h (by decide) (w_slot_1 hI x p0 p1 p2 (x_slot_1 hI x hfl p0 p1 p2 h0)) (c_X9_slot_1 hI x p0 p1 p2 (isSl_a h0))
  · rcases rg_or p1 4 (by omega) with h1 | ⟨s0, hs, rfl⟩
    · exact pr_fail h (by decide) (w_slot_1 hI x (nI d) p1 p2 (x_slot_2 hI x hfl hd p1 p2 h1)) (c_X9_slot_1 hI x (nI d) p1 p2 (isSl_b hd h1))
    · rcases rg_hi (v := p2) (n := 3) (hi := 3) rfl (by omega) with h2 | ⟨m1, m2, w, hw, rfl⟩
      · exact pr_fail h (by decide) (w_slot_2 hI x (nI d) (nI s0) p2 (x_slot_3 hI x hfl hd hs p2 h2)) (c_X9_slot_2 hI x hd hs p2 (inM_h h2))
      · refine pr_look h (w_slot hI x (nI d) (nI s0) (nI w) (c_X8_slot hI x hd hs (nI w) m1 m2)) (fun v z q => ⟨q.1, e7_of q.2⟩) (fun y1 y10 y15 => ?_)
        have hR1 : Rl (x 0) (y1 10) := by rw [y10]; exact hR
        exact ⟨_, c_X9_slot_o hI y1 hd hs (show w < 4 by omega), fun r y q => ⟨q.1.trans (lkS_rl hR1 hd hs (by omega) (by rw [y10]; exact hG.iv.1)).symm, m11_of q.2⟩⟩
theorem pr_door {l : Launch} {D : va_G} {cy : Nat → ClassId} {ad : Ads} (hI : IJ ad) (hfl : l.stackTraces = false) {x : Mem} {B : Nat} (h : INV x x B) (p0 p1 : Int32) :
    PR l D cy ad x B yL_door cL_door 5 hh_door rmw_door [.ref (ad 8 9 0), .int p0, .int p1, .ref (ad 16 19 0)] yX9_door cX9_door 3 rm_X9_door [.ref (ad 15 14 0), .int p0, .int p1] := by
  have h' := h
  obtain ⟨hR, ⟨mm, hG⟩, -, -, -⟩ := h'
  rcases rg_or p0 3 (by omega) with h0 | ⟨d, hd, rfl⟩
  · exact pr_fail h (by decide) (w_door_1 hI x p0 p1 (x_door_1 hI x hfl p0 p1 h0)) (c_X9_door_1 hI x p0 p1 (inM_o (n := 2) rfl (by omega) h0))
  · rcases rg_hi (v := p1) (n := 7) (hi := 7) rfl (by omega) with h1 | ⟨m1, m2, w, hw, rfl⟩
    · exact pr_fail h (by decide) (w_door_2 hI x (nI d) p1 (x_door_2 hI x hfl hd p1 h1)) (c_X9_door_2 hI x hd p1 (inM_h h1))
    · refine pr_look h (w_door hI x (nI d) (nI w) (c_X8_door hI x hd (nI w) m1 m2)) (fun v z q => ⟨q.1, e7_of q.2⟩) (fun y1 y10 y15 => ?_)
      have hR1 : Rl (x 0) (y1 10) := by rw [y10]; exact hR
      have e := lkD_rl (w := w) hR1 hd (by omega) (by rw [y10]; exact hG.iv.1) (by rw [y10]; exact hG.df)
      have fin : ∀ r y, (r = ofD y1 d w ∧ y = T0 y1) → r = lookDoor x 0 d (x 0 2) (nI w) ∧ M11 (T0 y1) y := fun r y q => ⟨q.1.trans e.symm, m11_of q.2⟩
      rcases (show w = 0 ∨ w = 1 ∨ w = 2 ∨ w = 3 ∨ w = 4 ∨ w = 5 ∨ w = 6 ∨ w = 7 by omega) with q | q | q | q | q | q | q | q <;> subst q
      · exact ⟨_, c_X9_door_o0 hI y1 hd, fin⟩
      · exact ⟨_, c_X9_door_o1 hI y1 hd, fin⟩
      · exact ⟨_, c_X9_door_o2 hI y1 hd, fin⟩
      · exact ⟨_, c_X9_door_o3 hI y1 hd, fin⟩
      · exact ⟨_, c_X9_door_o4 hI y1 hd, fin⟩
      · exact ⟨_, c_X9_door_o5 hI y1 hd, fin⟩
      · exact ⟨_, c_X9_door_o6 hI y1 hd, fin⟩
      · exact ⟨_, c_X9_door_o7 hI y1 hd, fin⟩
theorem pr_air {l : Launch} {D : va_G} {cy : Nat → ClassId} {ad : Ads} (hI : IJ ad) (hfl : l.stackTraces = false) {x : Mem} {B : Nat} (h : INV x x B) (p0 : Int32) :
    PR l D cy ad x B yL_air cL_air 4 hh_air rmw_air [.ref (ad 8 9 0), .int p0, .ref (ad 16 19 0)] yX9_air cX9_air 2 rm_X9_air [.ref (ad 15 14 0), .int p0] := by
  have h' := h
  obtain ⟨hR, ⟨mm, hG⟩, -, -, -⟩ := h'
  obtain ⟨-, -, -, -, nr, hr8, hnr⟩ := hG.iv
  have hnr0 : x 0 5 = nI nr := (hR.lo (n := 5) (by omega)).trans hnr
  by_cases h0 : p0 < 0
  · exact pr_fail h (by decide) (w_air_1 hI x p0 (x_air_1 hI x hfl p0 h0)) (c_X9_air_1 hI x p0 h0)
  · obtain ⟨ii, hi, rfl⟩ := nI_of h0
    refine pr_look h (w_air hI x (nI ii) (c_X8_air hI x (nI ii) h0)) (fun v z q => ⟨q.1, e7_of q.2⟩) (fun y1 y10 y15 => ?_)
    refine ⟨_, c_X9_air_o hI y1 (by rw [y10]; exact hnr) hr8 hi, fun r y q => ⟨q.1.trans ?_, m11_of q.2⟩⟩
    by_cases hq : ii < nr
    · rw [if_pos hq, num_n hq hr8 hnr0, y10]
      exact (hR.lo (by omega)).symm
    · rw [if_neg hq, num_o hq hr8 hnr0 hi]
theorem pr_count {l : Launch} {D : va_G} {cy : Nat → ClassId} {ad : Ads} (hI : IJ ad) (hfl : l.stackTraces = false) {x : Mem} {B : Nat} (h : INV x x B) (p0 : Int32) :
    PR l D cy ad x B yL_count cL_count 4 hh_count rmw_count [.ref (ad 8 9 0), .int p0, .ref (ad 16 19 0)] yX9_count cX9_count 2 rm_X9_count [.ref (ad 15 14 0), .int p0] := by
  have h' := h
  obtain ⟨hR, ⟨mm, hG⟩, -, ⟨nq, kq, hx⟩, -⟩ := h'
  rcases rg_hi (v := p0) (n := 7) (hi := 7) rfl (by omega) with h0 | ⟨m1, m2, w, hw, rfl⟩
  · exact pr_fail h (by decide) (w_count_1 hI x p0 (x_count_1 hI x hfl p0 h0)) (c_X9_count_1 hI x p0 (inM_h h0))
  · refine pr_look h (w_count hI x (nI w) (c_X8_count hI x (nI w) m1 m2)) (fun v z q => ⟨q.1, e7_of q.2⟩) (fun y1 y10 y15 => ?_)
    have hR1 : Rl (x 0) (y1 10) := by rw [y10]; exact hR
    have e := cnt_rl (w := w) hR1 (by omega) (by rw [y10]; exact hG.iv.1) (by rw [y10]; exact hG.df) (by rw [y15, hx.2.2.2.1, hx.2.2.2.2.1])
    have fin : ∀ r y, (r = cntM y1 w ∧ y = T0 y1) → r = cntS x (nI w) ∧ M11 (T0 y1) y := fun r y q => ⟨q.1.trans e.symm, m11_of q.2⟩
    rcases (show w = 0 ∨ w = 1 ∨ w = 2 ∨ w = 3 ∨ w = 4 ∨ w = 5 ∨ w = 6 ∨ w = 7 by omega) with q | q | q | q | q | q | q | q <;> subst q
    · exact ⟨_, c_X9_count_o0 hI y1, fin⟩
    · exact ⟨_, c_X9_count_o1 hI y1, fin⟩
    · exact ⟨_, c_X9_count_o2 hI y1, fin⟩
    · exact ⟨_, c_X9_count_o3 hI y1, fin⟩
    · exact ⟨_, c_X9_count_o4 hI y1, fin⟩
    · exact ⟨_, c_X9_count_o5 hI y1, fin⟩
    · exact ⟨_, c_X9_count_o6 hI y1, fin⟩
    · exact ⟨_, c_X9_count_o7 hI y1, fin⟩
theorem pr_setting {l : Launch} {D : va_G} {cy : Nat → ClassId} {ad : Ads} (hI : IJ ad) (hfl : l.stackTraces = false) {x : Mem} {B : Nat} (h : INV x x B) (p0 : Int32) :
    PR l D cy ad x B yL_setting cL_setting 4 hh_setting rmw_setting [.ref (ad 8 9 0), .int p0, .ref (ad 16 19 0)] yX9_setting cX9_setting 2 rm_X9_setting [.ref (ad 15 14 0), .int p0] := by
  have h' := h
  obtain ⟨hR, ⟨mm, hG⟩, -, -, -⟩ := h'
  rcases rg_or p0 3 (by omega) with h0 | ⟨w, hw, rfl⟩
  · exact pr_fail h (by decide) (w_setting_1 hI x p0 (x_setting_1 hI x hfl p0 h0)) (c_X9_setting_1 hI x p0 (inM_o (n := 2) rfl (by omega) h0))
  · have m1 : ¬ (nI w : Int32) < 0 := fun q => absurd ((nI_ltI (a := w) (b := 0) (by omega) (by omega)).mp q) (by omega)
    have m2 : (nI w : Int32) < 3 := (nI_ltI (a := w) (b := 3) (by omega) (by omega)).mpr hw
    refine pr_look h (w_setting hI x (nI w) (c_X8_setting hI x (nI w) m1 m2)) (fun v z q => ⟨q.1, e7_of q.2⟩) (fun y1 y10 y15 => ?_)
    have hR1 : Rl (x 0) (y1 10) := by rw [y10]; exact hR
    exact ⟨_, c_X9_setting_o hI y1 hw, fun r y q => ⟨q.1.trans (val_rl hR1 hw).symm, m11_of q.2⟩⟩
