/-! ===== make, forget, learn, again, on both sides ===== -/
theorem isSl_a {a b : Int32} (h : a < 0 ∨ nI 3 ≤ a) : isSl a b = 0 := by
  unfold isSl
  rw [if_pos (show inM a 0 2 = 0 from inM_o (n := 2) rfl (by omega) h)]
theorem isSl_b {d : Nat} {b : Int32} (hd : d < 3) (h : b < 0 ∨ nI 4 ≤ b) : isSl (nI d) b = 0 := by
  unfold isSl
  rw [if_neg (by rw [inN (j := d) (n := 2) (nn := 2) rfl (by omega) (by omega)]; decide), if_pos (show inM b 0 3 = 0 from inM_o (n := 3) rfl (by omega) h)]
theorem pr_make {l : Launch} {D : va_G} {cy : Nat → ClassId} {ad : Ads} (hI : IJ ad) (hfl : l.stackTraces = false) {x : Mem} {B : Nat} (h : INV x x B) (hB : 3 * B < 2 ^ 20) (p0 p1 p2 : Int32) :
    PR l D cy ad x B yL_make cL_make 6 hh_make rmw_make [.ref (ad 8 9 0), .int p0, .int p1, .int p2, .ref (ad 16 19 0)] yX9_make cX9_make 4 rm_X9_make [.ref (ad 15 14 0), .int p0, .int p1, .int p2] := by
  have hF := h.fl0
  have h' := h
  obtain ⟨hR, ⟨mm, hG⟩, -, ⟨nq, kq, hx⟩, -⟩ := h'
  rcases rg_or p0 4 (by omega) with h0 | ⟨j, hj, rfl⟩
  · exact pr_fail h (by decide) (w_make_1 hI x p0 p1 p2 (x_make_1 hI x hfl p0 p1 p2 h0)) (c_X9_make_1 hI x p0 p1 p2 (inM_o (n := 3) rfl (by omega) h0))
  · rcases rg_hi (v := p1) (n := 9999) (hi := 9999) rfl (by omega) with h1 | ⟨m1, m2, q, hq, rfl⟩
    · exact pr_fail h (by decide) (w_make_2 hI x (nI j) p1 p2 (x_make_2 hI x hfl hj p1 p2 h1)) (c_X9_make_2 hI x hj p1 p2 (inM_h h1))
    · rcases rg_hi (v := p2) (n := 9999) (hi := 9999) rfl (by omega) with h2 | ⟨n1, n2, q2, hq2, rfl⟩
      · exact pr_fail h (by decide) (w_make_2 hI x (nI j) (nI q) p2 (x_make_3 hI x hfl hj (nI q) p2 m1 m2 h2)) (c_X9_make_3 hI x hj (nI q) p2 m1 m2 (inM_h h2))
      · refine pr_ok h hx (w_make hI x (nI j) (nI q) (nI q2) (c_X8_make hI x hj (nI q) (nI q2) m1 m2 n1 n2 hx.1 ((hx.2.2.1.nxt hB).lo (Nat.zero_le _)) hF)) (fun k hk => funext fun n => (up_b _ _ _ hk).trans (up_b _ _ _ hk)) (fun y1 y10 y150 => ?_)
        have s10 : svM (T0 y1) kq 10 = x 10 := sv0.trans y10
        have hRl : Rl (kpM x nq 0) (svM (T0 y1) kq 10) := by rw [kp_b0, s10]; exact hR
        have hGd : GD (svM (T0 y1) kq 10) mm B := by rw [s10]; exact hG
        exact ⟨up (up (svM (T0 y1) kq) 10 (14 + 4 * j) (nI q)) 10 (15 + 4 * j) (nI q2), fun k hk => funext fun n => (up_b _ _ _ hk).trans (up_b _ _ _ hk), upl_rl (upl_rl hRl (by omega)) (by omega), ⟨mm, (mk_gd hGd hj (by omega) (by omega)).le (by omega)⟩, _, c_X9_make hI y1 hj (nI q) (nI q2) m1 m2 n1 n2 hx.2.1 y150, fun r y hh => ⟨hh.1.trans (by rw [y10]; exact (hR.lo (n := 15 + 4 * j) (by omega)).symm), by rw [hh.2]; exact M7.rf _⟩⟩
theorem pr_forget {l : Launch} {D : va_G} {cy : Nat → ClassId} {ad : Ads} (hI : IJ ad) (hfl : l.stackTraces = false) {x : Mem} {B : Nat} (h : INV x x B) (hB : 3 * B < 2 ^ 20) (p0 p1 : Int32) :
    PR l D cy ad x B yL_forget cL_forget 5 hh_forget rmw_forget [.ref (ad 8 9 0), .int p0, .int p1, .ref (ad 16 19 0)] yX9_forget cX9_forget 3 rm_X9_forget [.ref (ad 15 14 0), .int p0, .int p1] := by
  have hF := h.fl0
  have h' := h
  obtain ⟨hR, ⟨mm, hG⟩, -, ⟨nq, kq, hx⟩, -⟩ := h'
  rcases rg_or p0 3 (by omega) with h0 | ⟨d, hd, rfl⟩
  · exact pr_fail h (by decide) (w_forget_1 hI x p0 p1 (x_forget_1 hI x hfl p0 p1 h0)) (c_X9_forget_1 hI x p0 p1 (isSl_a h0))
  · rcases rg_or p1 4 (by omega) with h1 | ⟨s0, hs, rfl⟩
    · exact pr_fail h (by decide) (w_forget_1 hI x (nI d) p1 (x_forget_2 hI x hfl hd p1 h1)) (c_X9_forget_1 hI x (nI d) p1 (isSl_b hd h1))
    · refine pr_ok h hx (w_forget hI x (nI d) (nI s0) (c_X8_forget hI x hd hs hx.1 ((hx.2.2.1.nxt hB).lo (Nat.zero_le _)) hF)) (fun k hk => funext fun n => by unfold empS; rw [up_b _ _ _ hk, up_b _ _ _ hk, up_b _ _ _ hk, up_b _ _ _ hk]) (fun y1 y10 y150 => ?_)
      have s10 : svM (T0 y1) kq 10 = x 10 := sv0.trans y10
      have hRl : Rl (kpM x nq 0) (svM (T0 y1) kq 10) := by rw [kp_b0, s10]; exact hR
      have hGd : GD (svM (T0 y1) kq 10) mm B := by rw [s10]; exact hG
      refine ⟨up (svM (T0 y1) kq) 10 (36 + 22 * d + 4 * s0) 0, up_w, emp_rl hRl hd hs, ⟨mm, (fg_gd hGd hd hs).le (by omega)⟩, _, c_X9_forget hI y1 hd hs hx.2.1 y150, fun r y hh => ⟨hh.1.trans ?_, by rw [hh.2]; exact M7.rf _⟩⟩
      rw [y10, ((hR.2 d hd).2 s0 hs).1]
      exact (b2_f ((hG.iv.1 d hd s0 hs).imp id fun q => q.1)).symm
theorem pr_learn {l : Launch} {D : va_G} {cy : Nat → ClassId} {ad : Ads} (hI : IJ ad) (hfl : l.stackTraces = false) {x : Mem} {B : Nat} (h : INV x x B) (hB : 3 * B < 2 ^ 20) (p0 p1 p2 : Int32) :
    PR l D cy ad x B yL_learn cL_learn 6 hh_learn rmw_learn [.ref (ad 8 9 0), .int p0, .int p1, .int p2, .ref (ad 16 19 0)] yX9_learn cX9_learn 5 rm_X9_learn [.ref (ad 15 14 0), .int p0, .int p1, .int p2] := by
  have hF := h.fl0
  have h' := h
  obtain ⟨hR, ⟨mm, hG⟩, -, ⟨nq, kq, hx⟩, -⟩ := h'
  rcases rg_or p0 3 (by omega) with h0 | ⟨d, hd, rfl⟩
  · exact pr_fail h (by decide) (w_learn_1 hI x p0 p1 p2 (x_learn_1 hI x hfl p0 p1 p2 h0)) (c_X9_learn_1 hI x p0 p1 p2 (isSl_a h0))
  · rcases rg_or p1 4 (by omega) with h1 | ⟨s0, hs, rfl⟩
    · exact pr_fail h (by decide) (w_learn_1 hI x (nI d) p1 p2 (x_learn_2 hI x hfl hd p1 p2 h1)) (c_X9_learn_1 hI x (nI d) p1 p2 (isSl_b hd h1))
    · rcases rg_or p2 4 (by omega) with h2 | ⟨j, hj, rfl⟩
      · exact pr_fail h (by decide) (w_learn_1 hI x (nI d) (nI s0) p2 (x_learn_3 hI x hfl hd hs p2 h2)) (c_X9_learn_2 hI x (nI d) (nI s0) p2 (isSlN hd hs) (inM_o (n := 3) rfl (by omega) h2))
      · refine pr_ok h hx (w_learn hI x (nI d) (nI s0) (nI j) (c_X8_learn hI x hd hs hj hx.1 ((hx.2.2.1.nxt hB).lo (Nat.zero_le _)) hF)) (fun k hk => funext fun n => by unfold lrnS; rw [up_b _ _ _ hk, up_b _ _ _ hk, up_b _ _ _ hk, up_b _ _ _ hk]) (fun y1 y10 y150 => ?_)
        have s10 : svM (T0 y1) kq 10 = x 10 := sv0.trans y10
        have hRl : Rl (kpM x nq 0) (svM (T0 y1) kq 10) := by rw [kp_b0, s10]; exact hR
        have hGd : GD (svM (T0 y1) kq 10) mm B := by rw [s10]; exact hG
        have L := ln_rl hRl hd hs hj
        have G2 := ln_gd hGd hd hs hj
        exact ⟨lnM (svM (T0 y1) kq) d s0 j, fun k hk => funext fun n => by unfold lnM; rw [up_b _ _ _ hk, up_b _ _ _ hk, up_b _ _ _ hk, up_b _ _ _ hk], L, ⟨mm, G2.le (by omega)⟩, _, c_X9_learn hI y1 hd hs hj hx.2.1 y150, fun r y hh => ⟨hh.1.trans (lrn_rl L hd G2.iv.1).symm, by rw [hh.2]; exact M7.rf _⟩⟩
