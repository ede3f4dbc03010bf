/-! ===== doubles: what the share needs ===== -/
theorem n64_of {a : UInt64} (h : FP.Core.val64 a ≠ .nan) : vf_n64 a := by
  have h1 := (FP.Core.ne_nan a).mp h
  unfold vf_n64
  rw [UInt64.le_iff_toNat_le, UInt64.toNat_and]
  have e : (0x7fffffffffffffff : UInt64).toNat = 2 ^ 63 - 1 := by decide
  rw [e, Nat.and_two_pow_sub_one_eq_mod]
  exact h1
theorem fits_n {C : Nat} {q : Int} (h1 : 2 ^ 52 ≤ C) (h2 : C < 2 ^ 53) (h3 : -1074 ≤ q) (h4 : q ≤ 971) : FP.Core.fits FP.Core.b64 (.fin false C q) := by
  refine ⟨h2, ?_, ?_, Or.inr ?_⟩
  · show (2 - ((1023 : Nat) : Int) - ((53 : Nat) : Int)) ≤ q
    omega
  · show q ≤ ((1023 : Nat) : Int) - ((53 : Nat) : Int) + 1
    omega
  · exact h1
theorem mul_p2 {a kk : UInt64} {C : Nat} {q r : Int} (ha : FP.Core.val64 a = .fin false C q) (hk : FP.Core.val64 kk = .fin false (2 ^ 52) r) (h1 : 2 ^ 52 ≤ C) (h2 : C < 2 ^ 53) (h3 : -1074 ≤ q + r + 52) (h4 : q + r + 52 ≤ 971) : FP.Core.val64 (FP.dmul a kk) = .fin false C (q + r + 52) := by
  rw [FP.Core.val64_dmul, ha, hk]
  show FP.Core.roundRatio FP.Core.b64 false (C * 2 ^ 52) 1 (q + r) = _
  refine FP.Core.roundRatio_exact FP.Core.good_b64 (by decide) (fits_n h1 h2 h3 h4) ?_
  rw [show ((q + r) - (q + r + 52)).toNat = 0 by omega, show ((q + r + 52) - (q + r)).toNat = 52 by omega]
  omega
theorem v_two : FP.Core.val64 (4611686018427387904 : UInt64) = .fin false (2 ^ 52) (-51) := by decide +kernel
theorem v_p52 : FP.Core.val64 (4841369599423283200 : UInt64) = .fin false (2 ^ 52) 0 := by decide +kernel
/-- the difference to 1.0, and its digits -/
theorem sub_one {a : UInt64} {C : Nat} (ha : FP.Core.val64 a = .fin false C (-52)) (h1 : 2 ^ 52 ≤ C) (h2 : C < 2 ^ 53) : FP.Core.val64 (FP.dsub a FP.dconst1) = FP.Core.roundRatio FP.Core.b64 false (C - 2 ^ 52) 1 (-52) := by
  have e : FP.Core.val64 (FP.dsub a FP.dconst1) = FP.Core.round FP.Core.b64 (FP.Core.exactSum (FP.Core.val64 a) (FP.Core.negate (FP.Core.val64 FP.Core.dconst1))) := FP.Core.val64_dsub a FP.Core.dconst1
  rw [e, ha, FP.Core.val64_dconst1]
  have hv : FP.Core.sumUnits false C (-52) true (2 ^ 52) (-52) (min (-52) (-52)) = ((C - 2 ^ 52 : Nat) : Int) := by
    show ((C * 2 ^ 0 : Nat) : Int) + -((2 ^ 52 * 2 ^ 0 : Nat) : Int) = _
    omega
  show FP.Core.round FP.Core.b64 (.fin (FP.Core.sumSign false true (FP.Core.sumUnits false C (-52) true (2 ^ 52) (-52) (min (-52) (-52)))) (FP.Core.sumUnits false C (-52) true (2 ^ 52) (-52) (min (-52) (-52))).natAbs (min (-52) (-52))) = _
  rw [hv]
  have hs : FP.Core.sumSign false true ((C - 2 ^ 52 : Nat) : Int) = false := by
    unfold FP.Core.sumSign
    split
    · rfl
    · exact decide_eq_false (by omega)
  rw [hs, Int.natAbs_natCast]
  rfl
