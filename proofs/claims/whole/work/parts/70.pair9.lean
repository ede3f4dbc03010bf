/-! ===== again, on both sides ===== -/
theorem pr_again {l : Launch} {D : va_G} {cy : Nat → ClassId} {ad : Ads} (hI : IJ ad) (hfl : l.stackTraces = false) {x : Mem} {B : Nat} (h : INV x x B) (hB : 3 * B < 2 ^ 20) (p0 p1 : Int32) :
    PR l D cy ad x B yL_again cL_again 5 hh_again rmw_again [.ref (ad 8 9 0), .int p0, .int p1, .ref (ad 16 19 0)] yX9_again cX9_again 3 rm_X9_again [.ref (ad 15 14 0), .int p0, .int p1] := by
  have hF := h.fl0
  have h' := h
  obtain ⟨hR, ⟨mm, hG⟩, -, ⟨nq, kq, hx⟩, -⟩ := h'
  obtain ⟨hRS, hRF, hw, hmm, nr, hr8, hnr⟩ := hG.iv
  have hw0 : x 0 1 = nI mm := (hR.lo (n := 1) (by omega)).trans hw
  have hnr0 : x 0 5 = nI nr := (hR.lo (n := 5) (by omega)).trans hnr
  rcases rg_or p0 nr (by omega) with h0 | ⟨ii, hii, rfl⟩
  · refine pr_fail h (by decide) (w_again_1 hI x p0 p1 (x_again_1 hI x hfl p0 p1 hnr0 h0)) (c_X9_again_1 hI x p0 p1 hnr ?_)
    by_cases hz : nr = 0
    · subst hz
      unfold inM
      by_cases h1 : p0 < 0
      · rw [if_pos h1]
      · rw [if_neg h1, if_pos ?_]
        obtain ⟨j, hj, rfl⟩ := nI_of h1
        show (nI 0 - 1 : Int32) < nI j
        rw [Int32.lt_iff_toInt_lt, nI_toInt hj]
        have e : (nI 0 - 1 : Int32).toInt = -1 := by decide
        rw [e]
        omega
    · have e : (nI nr - 1 : Int32) = nI (nr - 1) := by
        rw [← dec_n (Nat.pos_of_ne_zero hz), Int32.sub_eq_add_neg]
        rfl
      rw [e]
      exact inM_o (n := nr - 1) rfl (by omega) (by rw [show nr - 1 + 1 = nr by omega]; exact h0)
  · rcases rg_hi (v := p1) (n := 7) (hi := 7) rfl (by omega) with h1 | ⟨m1, m2, q, hq, rfl⟩
    · exact pr_fail h (by decide) (w_again_2 hI x (nI ii) p1 (x_again_2 hI x hfl hii hr8 hnr0 p1 h1)) (c_X9_again_2 hI x hii hr8 hnr p1 (inM_h h1))
    · refine pr_ok h hx (w_again hI x (nI ii) (nI q) (c_X8_again hI x hii hr8 hnr0 (nI q) m1 m2 mm (by omega) hw0 hx.1 ((hx.2.2.1.nxt hB).lo (Nat.zero_le _)) hF)) (fun k hk => funext fun n => agnS_b hk) (fun y1 y10 y150 => ?_)
      have s10 : svM (T0 y1) kq 10 = x 10 := sv0.trans y10
      have hRl : Rl (kpM x nq 0) (svM (T0 y1) kq 10) := by rw [kp_b0, s10]; exact hR
      have hGd : GD (svM (T0 y1) kq 10) mm B := by rw [s10]; exact hG
      have P := ag_rl (msk := nI q) (mm := mm) hRl hii hr8 (by rw [kp_b0]; exact hnr0)
      exact ⟨(agM (svM (T0 y1) kq) ii (nI q) mm).2, fun k hk => funext fun n => agM_b hk, P.2, ⟨mm, (ag_gd hGd).le (by omega)⟩, _, c_X9_again hI y1 hii hr8 (by rw [y10]; exact hnr) (nI q) m1 m2 (by rw [y10]; exact hRS) mm hmm (by rw [y10]; exact hw) hx.2.1 y150, fun r y hh => ⟨hh.1.trans P.1.symm, hh.2⟩⟩
