/-! ===== looks that try a number, on both sides ===== -/
theorem pr_ifHeard {l : Launch} {D : va_G} {cy : Nat → ClassId} {ad : Ads} (hI : IJ ad) (hfl : l.stackTraces = false) {x : Mem} {B : Nat} (h : INV x x B) (p0 p1 : Int32) :
    PR l D cy ad x B yL_ifHeard cL_ifHeard 5 hh_ifHeard rmw_ifHeard [.ref (ad 8 9 0), .int p0, .int p1, .ref (ad 16 19 0)] yX9_ifHeard cX9_ifHeard 3 rm_X9_ifHeard [.ref (ad 15 14 0), .int p0, .int p1] := by
  have hF := h.fl0
  have h' := h
  obtain ⟨hR, ⟨mm, hG⟩, -, -, -⟩ := h'
  obtain ⟨hRS, hRF, hw, hmm, nr, hr8, hnr⟩ := hG.iv
  have hw0 : x 0 1 = nI mm := (hR.lo (n := 1) (by omega)).trans hw
  rcases rg_or p0 3 (by omega) with h0 | ⟨d, hd, rfl⟩
  · exact pr_fail h (by decide) (w_ifHeard_1 hI x p0 p1 (x_ifHeard_1 hI x hfl p0 p1 h0)) (c_X9_ifHeard_1 hI x p0 p1 (inM_o (n := 2) rfl (by omega) h0))
  · rcases rg_hi (v := p1) (n := 65535) (hi := 65535) rfl (by omega) with h1 | ⟨m1, m2, -⟩
    · exact pr_fail h (by decide) (w_ifHeard_2 hI x (nI d) p1 (x_ifHeard_2 hI x hfl hd p1 h1)) (c_X9_ifHeard_2 hI x hd p1 (inM_h h1))
    · refine pr_look h (w_ifHeard hI x (nI d) p1 (c_X8_ifHeard hI x hd mm (by omega) hw0 hF p1 m1 m2)) (fun v z q => q) (fun y1 y10 y15 => ?_)
      have hR1 : Rq 30 (x 0) (y1 10) := by rw [y10]; exact hR
      exact ⟨_, c_X9_ifHeard_o hI y1 hd p1 m1 m2 (by rw [y10]; exact hRS) mm hmm (by rw [y10]; exact hw), fun r y q => ⟨q.1.trans (hr_rl hR1 (by omega) (by omega) hd).1.symm, q.2.m11⟩⟩
theorem pr_opensIn {l : Launch} {D : va_G} {cy : Nat → ClassId} {ad : Ads} (hI : IJ ad) (hfl : l.stackTraces = false) {x : Mem} {B : Nat} (h : INV x x B) (p0 p1 : Int32) :
    PR l D cy ad x B yL_opensIn cL_opensIn 5 hh_opensIn rmw_opensIn [.ref (ad 8 9 0), .int p0, .int p1, .ref (ad 16 19 0)] yX9_opensIn cX9_opensIn 3 rm_X9_opensIn [.ref (ad 15 14 0), .int p0, .int p1] := by
  have hF := h.fl0
  have h' := h
  obtain ⟨hR, ⟨mm, hG⟩, -, -, -⟩ := h'
  obtain ⟨hRS, hRF, hw, hmm, nr, hr8, hnr⟩ := hG.iv
  have hw0 : x 0 1 = nI mm := (hR.lo (n := 1) (by omega)).trans hw
  rcases rg_or p0 4 (by omega) with h0 | ⟨j, hj, rfl⟩
  · exact pr_fail h (by decide) (w_opensIn_1 hI x p0 p1 (x_opensIn_1 hI x hfl p0 p1 h0)) (c_X9_opensIn_1 hI x p0 p1 (inM_o (n := 3) rfl (by omega) h0))
  · rcases rg_or p1 3 (by omega) with h1 | ⟨d, hd, rfl⟩
    · exact pr_fail h (by decide) (w_opensIn_1 hI x (nI j) p1 (x_opensIn_2 hI x hfl hj p1 h1)) (c_X9_opensIn_2 hI x (nI j) p1 (inN (j := j) (n := 3) (nn := 3) rfl (by omega) (by omega)) (inM_o (n := 2) rfl (by omega) h1))
    · obtain ⟨nb, b9, b2⟩ := hG.bt j hj
      have b3 : x 0 (16 + 4 * j) = nI nb := (hR.lo (n := 16 + 4 * j) (by omega)).trans b2
      refine pr_look h (w_opensIn hI x (nI j) (nI d) (c_X8_opensIn hI x hj hd mm (by omega) hw0 hF b3 b9)) (fun v z q => q) (fun y1 y10 y15 => ?_)
      have hR1 : Rl (x 0) (T0 y1 10) := by rw [T0_b (by omega), y10]; exact hR
      exact ⟨_, c_X9_opensIn_o hI y1 hj hd (by rw [y10]; exact hRS) mm hmm (by rw [y10]; exact hw) (by rw [y10]; exact hRF) (by rw [y10]; exact hnr) hr8, fun r y q => ⟨q.1.trans (ptX_rl hR1 hj hd b3 b9).symm, q.2⟩⟩
theorem pr_unheard {l : Launch} {D : va_G} {cy : Nat → ClassId} {ad : Ads} (hI : IJ ad) (hfl : l.stackTraces = false) {x : Mem} {B : Nat} (h : INV x x B) (p0 p1 : Int32) :
    PR l D cy ad x B yL_unheard cL_unheard 5 hh_unheard rmw_unheard [.ref (ad 8 9 0), .int p0, .int p1, .ref (ad 16 19 0)] yX9_unheard cX9_unheard 3 rm_X9_unheard [.ref (ad 15 14 0), .int p0, .int p1] := by
  have hF := h.fl0
  have h' := h
  obtain ⟨hR, ⟨mm, hG⟩, -, -, -⟩ := h'
  obtain ⟨hRS, hRF, hw, hmm, nr, hr8, hnr⟩ := hG.iv
  have hw0 : x 0 1 = nI mm := (hR.lo (n := 1) (by omega)).trans hw
  rcases rg_or p0 4 (by omega) with h0 | ⟨j, hj, rfl⟩
  · exact pr_fail h (by decide) (w_unheard_1 hI x p0 p1 (x_unheard_1 hI x hfl p0 p1 h0)) (c_X9_unheard_1 hI x p0 p1 (inM_o (n := 3) rfl (by omega) h0))
  · rcases rg_or p1 3 (by omega) with h1 | ⟨d, hd, rfl⟩
    · exact pr_fail h (by decide) (w_unheard_1 hI x (nI j) p1 (x_unheard_2 hI x hfl hj p1 h1)) (c_X9_unheard_2 hI x (nI j) p1 (inN (j := j) (n := 3) (nn := 3) rfl (by omega) (by omega)) (inM_o (n := 2) rfl (by omega) h1))
    · refine pr_look h (w_unheard hI x (nI j) (nI d) (c_X8_unheard hI x hj hd mm (by omega) hw0 hF)) (fun v z q => q) (fun y1 y10 y15 => ?_)
      have t10 : T0 y1 10 = y1 10 := T0_b (by omega)
      have hR1 : Rl (x 0) (T0 y1 10) := by rw [t10, y10]; exact hR
      have e : munX x j d mm = munK (T0 y1) 10 d (y1 10 (14 + 4 * j)) mm 100 (y1 10 (15 + 4 * j)) 0 := by
        rw [muX_rl hR1 hj hd]
        unfold muX
        rw [t10]
      exact ⟨_, c_X9_unheard_o hI y1 hj hd (by rw [y10]; exact hRS) mm hmm (by rw [y10]; exact hw) (by rw [y10]; exact hRF), fun r y q => ⟨q.1.trans e.symm, q.2.m11⟩⟩
theorem pr_useful {l : Launch} {D : va_G} {cy : Nat → ClassId} {ad : Ads} (hI : IJ ad) (hfl : l.stackTraces = false) {x : Mem} {B : Nat} (h : INV x x B) (p0 : Int32) :
    PR l D cy ad x B yL_useful cL_useful 4 hh_useful rmw_useful [.ref (ad 8 9 0), .int p0, .ref (ad 16 19 0)] yX9_useful cX9_useful 2 rm_X9_useful [.ref (ad 15 14 0), .int p0] := by
  have hF := h.fl0
  have h' := h
  obtain ⟨hR, ⟨mm, hG⟩, -, -, -⟩ := h'
  obtain ⟨hRS, hRF, hw, hmm, nr, hr8, hnr⟩ := hG.iv
  have hw0 : x 0 1 = nI mm := (hR.lo (n := 1) (by omega)).trans hw
  have hnr0 : x 0 5 = nI nr := (hR.lo (n := 5) (by omega)).trans hnr
  rcases rg_or p0 3 (by omega) with h0 | ⟨d, hd, rfl⟩
  · exact pr_fail h (by decide) (w_useful_1 hI x p0 (x_useful_1 hI x hfl p0 h0)) (c_X9_useful_1 hI x p0 (inM_o (n := 2) rfl (by omega) h0))
  · refine pr_look h (w_useful hI x (nI d) (c_X8_useful hI x hd mm (by omega) hw0 hF hnr0 hr8)) (fun v z q => q) (fun y1 y10 y15 => ?_)
    have t10 : T0 y1 10 = y1 10 := T0_b (by omega)
    have hR1 : Rl (x 0) (T0 y1 10) := by rw [t10, y10]; exact hR
    exact ⟨_, c_X9_useful_o hI y1 hd (by rw [y10]; exact hRS) mm hmm (by rw [y10]; exact hw) (by rw [y10]; exact hnr) hr8, fun r y q => ⟨q.1.trans (fus_rl hR1 hd hr8 (by rw [t10, y10]; exact hnr) nr 0 (by omega)).symm, q.2.m11⟩⟩
