/-! ===== battery, on both sides ===== -/
theorem pr_battery {l : Launch} {D : va_G} {cy : Nat → ClassId} {ad : Ads} (hI : IJ ad) (hfl : l.stackTraces = false) {x : Mem} {B : Nat} (h : INV x x B) (hB : 3 * B < 2 ^ 20) (p0 p1 : Int32) :
    PR l D cy ad x B yL_battery cL_battery 5 hh_battery rmw_battery [.ref (ad 8 9 0), .int p0, .int p1, .ref (ad 16 19 0)] yX9_battery cX9_battery 3 rm_X9_battery [.ref (ad 15 14 0), .int p0, .int p1] := by
  have hF := h.fl0
  have h' := h
  obtain ⟨hR, ⟨mm, hG⟩, -, ⟨nq, kq, hx⟩, -⟩ := h'
  rcases rg_or p0 4 (by omega) with h0 | ⟨j, hj, rfl⟩
  · exact pr_fail h (by decide) (w_battery_1 hI x p0 p1 (x_battery_1 hI x hfl p0 p1 h0)) (c_X9_battery_1 hI x p0 p1 (inM_o (n := 3) rfl (by omega) h0))
  · rcases rg_hi (v := p1) (n := 999) (hi := 999) rfl (by omega) with h1 | ⟨m1, m2, q, hq, rfl⟩
    · exact pr_fail h (by decide) (w_battery_2 hI x (nI j) p1 (x_battery_2 hI x hfl hj p1 h1)) (c_X9_battery_2 hI x hj p1 (inM_h h1))
    · refine pr_ok h hx (w_battery hI x (nI j) (nI q) (c_X8_battery hI x hj (nI q) m1 m2 hx.1 ((hx.2.2.1.nxt hB).lo (Nat.zero_le _)) hF)) (fun k hk => funext fun n => up_b _ _ _ hk) (fun y1 y10 y150 => ?_)
      have s10 : svM (T0 y1) kq 10 = x 10 := sv0.trans y10
      have hRl : Rl (kpM x nq 0) (svM (T0 y1) kq 10) := by rw [kp_b0, s10]; exact hR
      have hGd : GD (svM (T0 y1) kq 10) mm B := by rw [s10]; exact hG
      refine ⟨up (svM (T0 y1) kq) 10 (16 + 4 * j) (nI q), up_w, upl_rl hRl (by omega), ⟨mm, (bt_gd hGd hj hq).le (by omega)⟩, _, c_X9_battery hI y1 hj (nI q) m1 m2 hx.2.1 y150, fun r y hh => ⟨hh.1.trans (by rw [y10]; exact (hR.lo (n := 16 + 4 * j) (by omega)).symm), by rw [hh.2]; exact M7.rf _⟩⟩
