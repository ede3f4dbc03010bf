/-! ===== the first state holds what always holds ===== -/
theorem in_a : ∀ n, n < 30 → stI n = nowI n := by decide +kernel
theorem in_b : ∀ d, d < 3 → ∀ f, f < 6 → stI (30 + f + 22 * d) = nowI (30 + f + 22 * d) := by decide +kernel
theorem in_c : ∀ d, d < 3 → ∀ s, s < 4 → stI (36 + 22 * d + 4 * s) = nowI (36 + 22 * d + 4 * s) := by decide +kernel
theorem in_d : ∀ d, d < 3 → ∀ s, s < 4 → ∀ i, i < 4 → 0 < i → stI (36 + i + 22 * d + 4 * s) = if nowI (36 + 22 * d + 4 * s) = 0 then -1 else nowI (36 + i + 22 * d + 4 * s) := by decide +kernel
theorem in_e : ∀ d, d < 3 → ∀ s, s < 4 → nowI (36 + 22 * d + 4 * s) = 0 := by decide +kernel
theorem in_f : ∀ j, j < 4 → nowI (14 + 4 * j) = nI j ∧ nowI (15 + 4 * j) = nI 0 ∧ nowI (16 + 4 * j) = nI 100 := by decide +kernel
theorem in_g : ∀ d, d < 3 → nowI (30 + 22 * d) = 0 ∧ nowI (32 + 22 * d) = nI 0 ∧ nowI (34 + 22 * d) = nI 0 := by decide +kernel
theorem in_h : ∀ d, d < 3 → stI (30 + 22 * d) = 0 := by decide +kernel
theorem in_i : ∀ d, d < 3 → ∀ s, s < 4 → stI (36 + 22 * d + 4 * s) = 0 := by decide +kernel
theorem ini_lo {k : Nat} (h : k < 8) : ini k = stI := by
  funext n
  unfold ini
  rw [if_pos h]
theorem ini_10 : ini 10 = nowI := rfl
theorem ini_rl : Rl (ini 0) (ini 10) := by
  rw [ini_lo (by omega), ini_10]
  exact ⟨fun n hn _ => in_a n hn, fun d hd => ⟨fun f hf => in_b d hd f hf, fun s hs => ⟨in_c d hd s hs, fun i h0 hi => in_d d hd s hs i hi h0⟩⟩⟩
theorem ini_gd : GD (ini 10) 100 0 := by
  rw [ini_10]
  refine ⟨⟨fun d hd s hs => Or.inl (in_e d hd s hs), fun j hj => ⟨j, 0, by omega, by omega, (in_f j hj).1, (in_f j hj).2.1⟩, by decide +kernel, by omega, 0, by omega, by decide +kernel⟩, fun d hd => Or.inl (in_g d hd).1, fun j hj => ⟨100, by omega, (in_f j hj).2.2⟩, fun d hd => ⟨0, 0, (in_g d hd).2.1, (in_g d hd).2.2, by omega⟩⟩
theorem ini_inv : INV ini ini 0 := by
  refine ⟨ini_rl, ⟨100, ini_gd⟩, fun k k1 k2 d hd => ?_, ⟨0, 0, by omega, by omega, ⟨0, by omega, by omega, rfl, rfl⟩, rfl, rfl, fun i hi => absurd hi (by omega)⟩, 0, by omega, rfl, rfl, fun i hi => absurd hi (by omega)⟩
  rw [ini_lo (by omega)]
  exact ⟨Or.inl (in_h d hd), fun s hs => Or.inl (in_i d hd s hs)⟩
