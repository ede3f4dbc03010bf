/-! ===== the first state holds what always holds ===== -/
theorem in_RS : ∀ d, d < 3 → ∀ s, s < 4 → stI (36 + 22 * d + 4 * s) = 0 := by decide +kernel
theorem in_UN : ∀ d, d < 3 → ∀ s, s < 4 → ∀ i, i < 4 → 0 < i → stI (36 + 22 * d + 4 * s + i) = -1 := by decide +kernel
theorem in_f : ∀ j, j < 4 → stI (14 + 4 * j) = nI j ∧ stI (15 + 4 * j) = nI 0 ∧ stI (16 + 4 * j) = nI 100 := by decide +kernel
theorem in_g : ∀ d, d < 3 → stI (30 + 22 * d) = 0 ∧ stI (31 + 22 * d) = nI 0 ∧ stI (32 + 22 * d) = nI 0 ∧ stI (34 + 22 * d) = nI 0 := by decide +kernel
theorem ini_lo {k : Nat} (h : k < 8) : ini k = stI := by
  funext n
  unfold ini
  rw [if_pos h]
theorem ini_cv : CV stI 100 0 := by
  refine ⟨⟨fun d hd s hs => Or.inl (in_RS d hd s hs), fun d hd s hs _ i i0 i4 => in_UN d hd s hs i i4 i0, fun j hj => ⟨j, 0, by omega, by omega, (in_f j hj).1, (in_f j hj).2.1⟩, fun d hd => Or.inl (in_g d hd).1, fun j hj => ⟨100, by omega, (in_f j hj).2.2⟩, fun d hd => ⟨0, by omega, (in_g d hd).2.1⟩, ⟨0, by omega, by decide +kernel, fun i hi => absurd hi (by omega)⟩, by decide +kernel, by omega, ⟨16, by omega, by decide +kernel⟩, 8, by omega, by decide +kernel⟩, fun _ => 0, fun _ => 0, 0, fun d hd => ⟨(in_g d hd).2.2.1, (in_g d hd).2.2.2, Nat.le_refl _⟩, by decide +kernel, Nat.zero_le _⟩
theorem ini_inv : I29 ini 0 := by
  refine ⟨⟨100, by rw [ini_lo (by omega)]; exact ini_cv⟩, fun k _ k7 => ⟨100, by rw [ini_lo (by omega)]; exact ini_cv⟩, 0, 0, by omega, by omega, ⟨0, by omega, by omega, rfl, rfl⟩, rfl⟩
