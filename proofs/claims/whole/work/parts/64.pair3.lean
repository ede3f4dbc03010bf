/-! ===== shut, on both sides (the pattern of the calls that keep and then change) ===== -/
theorem kp_b0 {x : Mem} {nq : Nat} : kpM x nq 0 = x 0 := funext fun n => kpM_0
theorem y_mod {x z y1 : Mem} {nq : Nat} {v : Int32} (h6 : nq < 6) (hz : ∀ k, k ≠ 0 → z k = kpM x nq k) (hy : y1 = up z 16 0 v) {k : Nat} (h9 : 9 ≤ k) (h16 : k ≠ 16) : y1 k = x k := by
  rw [hy, show up z 16 0 v k = z k from funext fun n => up_b _ _ _ h16, hz k (by omega)]
  exact funext fun n => kpM_9 (by omega) (by omega)
theorem pr_shut {l : Launch} {D : va_G} {cy : Nat → ClassId} {ad : Ads} (hI : IJ ad) (hfl : l.stackTraces = false) {x : Mem} {B : Nat} (h : INV x x B) (hB : 3 * B < 2 ^ 20) (p0 : Int32) :
    PR l D cy ad x B yL_shut cL_shut 4 hh_shut rmw_shut [.ref (ad 8 9 0), .int p0, .ref (ad 16 19 0)] yX9_shut cX9_shut 2 rm_X9_shut [.ref (ad 15 14 0), .int p0] := by
  have hF := h.fl0
  have h' := h
  obtain ⟨hR, ⟨mm, hG⟩, -, ⟨nq, kq, hx⟩, -⟩ := h'
  rcases rg_or p0 3 (by omega) with h0 | ⟨d, hd, rfl⟩
  · refine ⟨_, w_shut_1 hI x p0 (x_shut_1 hI x hfl p0 h0), fun k y1 hk => ⟨_, c_X9_shut_1 hI y1 p0 (inM_o (n := 2) rfl (by omega) h0), fun b y2 hb => ?_⟩⟩
    obtain ⟨e1, e2⟩ := hk
    obtain ⟨e3, e4⟩ := hb
    subst e1 e2 e4
    exact ⟨up_s _ _ _ _, fun q => absurd q (by decide), h.tf (by omega)⟩
  · refine ⟨_, w_shut hI x (nI d) (c_X8_shut hI x hd hx.1 ((hx.2.2.1.nxt hB).lo (Nat.zero_le _)) hF), fun k y1 hk => ?_⟩
    obtain ⟨e1, v, z, ⟨hv, hz⟩, hy⟩ := hk
    have hzk : ∀ k, k ≠ 0 → z k = kpM x nq k := fun k hk => by rw [hz]; exact funext fun n => up_b _ _ _ hk
    have ym := fun (k : Nat) (h9 : 9 ≤ k) (h16 : k ≠ 16) => y_mod hx.1 hzk hy h9 h16
    have y10 : y1 10 = x 10 := ym 10 (by omega) (by omega)
    have hyb : y1 15 0 = nI kq := by rw [ym 15 (by omega) (by omega)]; exact hx.2.2.2.2.1
    refine ⟨_, c_X9_shut hI y1 hd hx.2.1 hyb, fun b y2 hb => ?_⟩
    obtain ⟨hb1, hb2⟩ := hb
    have s10 : svM (T0 y1) kq 10 = x 10 := sv0.trans y10
    have yb : ∀ k, k ≠ 10 → y2 k = svM (T0 y1) kq k := fun k hk => by rw [hb2]; exact funext fun n => up_b _ _ _ hk
    have hRl : Rl (kpM x nq 0) (svM (T0 y1) kq 10) := by rw [kp_b0, s10]; exact hR
    have hGd : GD (svM (T0 y1) kq 10) mm B := by rw [s10]; exact hG
    refine ⟨?_, fun _ => ?_, h.pair hx (by omega) hzk hy (fun k hk => (yb k (by omega)).trans (sv_lo hk)) (yb 12 (by omega)) ((yb 13 (by omega)).trans sv_13) (by rw [yb 15 (by omega)]) (by rw [yb 15 (by omega)]; exact sv_151 (by omega) (by omega)) ?_ ⟨mm, ?_⟩⟩
    · rw [yb 15 (by omega), e1]
      exact sv_152
    · rw [yb 16 (by omega), sv_16, hy, up_s, hv, hb1, y10, show x 0 (30 + 22 * d) = x 10 (30 + 22 * d) from (hR.2 d hd).1 0 (by omega)]
      exact b2_f (hG.df d hd)
    · rw [hz, hb2]
      exact upf_rl (f := 0) hRl hd (by omega)
    · rw [hb2]
      exact (sh_gd hGd hd).le (by omega)
