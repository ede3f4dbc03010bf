/-! ===== press, on both sides ===== -/
theorem up_w {y : Mem} {kq n : Nat} {v : Int32} : ∀ k, k ≠ 10 → up (svM (T0 y) kq) 10 n v k = svM (T0 y) kq k := fun k hk => funext fun m => up_b _ _ _ hk
theorem c_m7 {l : Launch} {D : va_G} {cy : Nat → ClassId} {ad : Ads} {ym : MethodName} {cm : ByteArray} {nm : Nat} {rt : Option FieldType} {rmm : Room} {As : List Value} {x : Mem} {p1 p2 : Int32 → Mem → Prop} (h : Cti l ym cm nm rt rmm D cy ad As x p1) (e : p1 = p2) : Cti l ym cm nm rt rmm D cy ad As x p2 := e ▸ h
theorem rg_hi {v : Int32} {n : Nat} {hi : Int32} (hh : hi = nI n) (hn : n < 2 ^ 20) : (v < 0 ∨ hi < v) ∨ (¬ v < 0 ∧ ¬ hi < v ∧ ∃ j : Nat, j ≤ n ∧ v = nI j) := by
  by_cases h1 : v < 0
  · exact Or.inl (Or.inl h1)
  · by_cases h2 : hi < v
    · exact Or.inl (Or.inr h2)
    · obtain ⟨j, hj, rfl⟩ := nI_of h1
      refine Or.inr ⟨h1, h2, j, ?_, rfl⟩
      rw [hh] at h2
      by_cases q : j ≤ n
      · exact q
      · exact absurd ((nI_ltI (by omega) hj).mpr (by omega)) h2
theorem inM_h {v hi : Int32} (h : v < 0 ∨ hi < v) : inM v 0 hi = 0 := by
  unfold inM
  by_cases h1 : v < 0
  · rw [if_pos h1]
  · rw [if_neg h1, if_pos (h.resolve_left h1)]
theorem pr_press {l : Launch} {D : va_G} {cy : Nat → ClassId} {ad : Ads} (hI : IJ ad) (hfl : l.stackTraces = false) {x : Mem} {B : Nat} (h : INV x x B) (hB : 3 * B < 2 ^ 20) (p0 p1 : Int32) :
    PR l D cy ad x B yL_press cL_press 5 hh_press rmw_press [.ref (ad 8 9 0), .int p0, .int p1, .ref (ad 16 19 0)] yX9_press cX9_press 3 rm_X9_press [.ref (ad 15 14 0), .int p0, .int p1] := by
  have hF := h.fl0
  have h' := h
  obtain ⟨hR, ⟨mm, hG⟩, -, ⟨nq, kq, hx⟩, -⟩ := h'
  obtain ⟨hRS, hRF, hw, hmm, nr, hr8, hnr⟩ := hG.iv
  have hw0 : x 0 1 = nI mm := (hR.lo (n := 1) (by omega)).trans hw
  rcases rg_or p0 4 (by omega) with h0 | ⟨j, hj, rfl⟩
  · exact pr_fail h (by decide) (w_press_1 hI x p0 p1 (x_press_1 hI x hfl p0 p1 h0)) (c_X9_press_1 hI x p0 p1 (inM_o (n := 3) rfl (by omega) h0))
  · rcases rg_hi (v := p1) (n := 7) (hi := 7) rfl (by omega) with h1 | ⟨m1, m2, q, hq, rfl⟩
    · exact pr_fail h (by decide) (w_press_2 hI x (nI j) p1 (x_press_2 hI x hfl hj p1 h1)) (c_X9_press_2 hI x hj p1 (inM_h h1))
    · obtain ⟨nb, b1, b2⟩ := hG.bt j hj
      have b3 : x 0 (16 + 4 * j) = nI nb := (hR.lo (n := 16 + 4 * j) (by omega)).trans b2
      by_cases hb : nb = 0
      · subst hb
        exact pr_fail h (by decide) (w_press_3 hI x (nI j) (nI q) (x_press_3 hI x hfl hj (nI q) m1 m2 (by rw [b3]; decide))) (c_X9_press_3 hI x hj (nI q) m1 m2 b2)
      · have c1 : ¬ x 0 (16 + 4 * j) ≤ 0 := by
          rw [b3]
          exact fun w => hb (by have := (nI_leI (a := nb) (b := 0) (by omega) (by omega)).mp w; omega)
        have c2 : ¬ x 10 (16 + 4 * j) = 0 := by
          rw [b2]
          exact fun w => hb ((nEq (nn := 0) (n := 0) rfl (by omega) (by omega)).mp w)
        refine pr_ok h hx (w_press hI x (nI j) (nI q) (c_X8_press hI x hj (nI q) m1 m2 mm (by omega) hw0 c1 hx.1 ((hx.2.2.1.nxt hB).lo (Nat.zero_le _)) hF)) (fun k hk => funext fun n => prsS_b hk) (fun y1 y10 y150 => ?_)
        have s10 : svM (T0 y1) kq 10 = x 10 := sv0.trans y10
        have hRl : Rl (kpM x nq 0) (svM (T0 y1) kq 10) := by rw [kp_b0, s10]; exact hR
        have hGd : GD (svM (T0 y1) kq 10) mm B := by rw [s10]; exact hG
        have P := prs_rl (msk := nI q) (mm := mm) hRl hj
        refine ⟨(prsS (svM (T0 y1) kq) 10 j (nI q) mm).2, fun k hk => funext fun n => prsS_b hk, P.2, ⟨mm, (prs_gd hGd hj (by rw [s10]; exact c2)).le (by omega)⟩, _, c_X9_press hI y1 hj (nI q) m1 m2 (by rw [y10]; exact c2) (by rw [y10]; exact hRS) mm hmm (by rw [y10]; exact hw) (by rw [y10]; exact hRF) (by rw [y10]; exact hnr) hr8 hx.2.1 y150, fun r y hh => ⟨hh.1.trans P.1.symm, hh.2⟩⟩
