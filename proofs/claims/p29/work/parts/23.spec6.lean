theorem kpM_0 {x : Mem} {nq n : Nat} : kpM x nq 0 n = x 0 n := by
  unfold kpM
  rw [up_b _ _ _ (by omega), up_b _ _ _ (by omega), cpS_b (by omega)]
theorem kpM_9 {x : Mem} {nq b n : Nat} (h1 : b ≠ nq + 1) (h2 : b ≠ 8) : kpM x nq b n = x b n := by
  unfold kpM
  rw [up_b _ _ _ h2, up_b _ _ _ h2, cpS_b h1]
theorem kpM_82 {x : Mem} {nq : Nat} (h : nq < 6) : kpM x nq 8 2 = x 8 2 := by
  unfold kpM
  rw [up_n _ _ (by omega), up_n _ _ (by omega), cpS_b (by omega)]
