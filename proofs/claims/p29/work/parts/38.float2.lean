/-! ===== the share: a quotient of two numbers, and its bits ===== -/
theorem rm_lcmp {p : Program} {l : Launch} {e : Env} {R : Room} {s : State} {m : MethodId} {args : Array Value} {below : List Frame} {meth : Method} {c : Code} {cc : ByteArray} {nL : Nat} {own : String} {ret : Option FieldType} {D : va_G} {cy : Nat → ClassId} {ad : Ads} {A : Nat → Prop} {G : Heap → Prop} {nc ns : Nat} {Q : State → Prop} {pc : Nat} {ls : List (Nat × Value)} {st : List Value} (hc : CX p s m args meth c cc nL own ret D cy ad) {a b : Int64} (hd : decode cc pc = .ok (.lcmp, 1)) (kk : ∀ v : Int32, v = (if a > b then 1 else if a = b then 0 else -1) → RM p l e R s m args below meth c nL A G nc ns Q (pc + 1) ls (.int v :: st)) : RM p l e R s m args below meth c nL A G nc ns Q pc ls (.long b :: .long a :: st) := by
  intro H locs la hP hS hl T hT X
  have hexec := hc.1.1
  have hb := hc.1.2.1
  obtain ⟨t, x, y⟩ := kk _ rfl H locs la hP hS hl T hT X
  refine ⟨t, ?_, y⟩
  by_cases h1 : a > b
  · rw [if_pos h1] at x
    jvm_step X.here [X.here.top, hexec, hb, hd, h1]
    exact x
  · rw [if_neg h1] at x
    by_cases h2 : a = b
    · rw [if_pos h2] at x
      subst h2
      jvm_step X.here [X.here.top, hexec, hb, hd, h1]
      exact x
    · rw [if_neg h2] at x
      jvm_step X.here [X.here.top, hexec, hb, hd, h1, h2]
      exact x
theorem qmin64 : FP.Core.b64.qmin = -1074 := by decide
theorem qmax64 : FP.Core.b64.qmax = 971 := by decide
theorem dint_nat {a : Nat} (h0 : 0 < a) (h : a < 2 ^ 20) : ∃ (c : Nat) (q : Int), FP.Core.val64 (FP.i2d (nI a)) = .fin false c q ∧ 0 < c ∧ c * 2 ^ q.toNat = a * 2 ^ (-q).toNat := by
  have hi : FP.Core.DInt (nI a).toInt (FP.i2d (nI a)) := FP.Core.i2d_int (nI a)
  rw [nI_toInt (by omega)] at hi
  unfold FP.Core.DInt at hi
  cases hv : FP.Core.val64 (FP.i2d (nI a)) with
  | nan => rw [hv] at hi; exact hi.elim
  | inf s => rw [hv] at hi; exact hi.elim
  | fin s c q =>
    rw [hv] at hi
    have hs : s = decide ((a : Int) < 0) := FP.Core.whole_sign hi (by omega)
    have hs' : s = false := by rw [hs]; exact decide_eq_false (by omega)
    have hz := FP.Core.whole_zero hi
    have hn := FP.Core.whole_natAbs hi
    rw [Int.natAbs_natCast] at hn
    subst hs'
    exact ⟨c, q, rfl, by omega, hn⟩
theorem div_rr {a t : Nat} (h0 : 0 < a) (h1 : a < 2 ^ 20) (h2 : 0 < t) (h3 : t < 2 ^ 20) : FP.Core.val64 (FP.ddiv (FP.i2d (nI a)) (FP.i2d (nI t))) = FP.Core.roundRatio FP.Core.b64 false a t 0 := by
  obtain ⟨c, q, ha, hc, hca⟩ := dint_nat h0 h1
  obtain ⟨d, r, ht, hd, hdt⟩ := dint_nat h2 h3
  have e : FP.Core.val64 (FP.ddiv (FP.i2d (nI a)) (FP.i2d (nI t))) = FP.Core.quotient FP.Core.b64 (FP.Core.val64 (FP.i2d (nI a))) (FP.Core.val64 (FP.i2d (nI t))) := FP.Core.val64_ddiv _ _
  rw [e, ha, ht]
  show (if d = 0 then _ else FP.Core.roundRatio FP.Core.b64 (false != false) c d (q - r)) = _
  rw [if_neg (by omega)]
  refine FP.Core.roundRatio_congr hd h2 ?_
  refine Nat.eq_of_mul_eq_mul_right (Nat.two_pow_pos q.toNat) (Nat.eq_of_mul_eq_mul_right (Nat.two_pow_pos (-r).toNat) ?_)
  have hx : (q - r - 0).toNat + (-q).toNat + r.toNat = (0 - (q - r)).toNat + q.toNat + (-r).toNat := by omega
  calc c * t * 2 ^ (q - r - 0).toNat * 2 ^ q.toNat * 2 ^ (-r).toNat
      = (c * 2 ^ q.toNat) * (t * 2 ^ (-r).toNat) * 2 ^ (q - r - 0).toNat := by ac_rfl
    _ = (a * 2 ^ (-q).toNat) * (d * 2 ^ r.toNat) * 2 ^ (q - r - 0).toNat := by rw [hca, hdt]
    _ = a * d * 2 ^ ((q - r - 0).toNat + (-q).toNat + r.toNat) := by simp only [Nat.pow_add]; ac_rfl
    _ = a * d * 2 ^ ((0 - (q - r)).toNat + q.toNat + (-r).toNat) := by rw [hx]
    _ = a * d * 2 ^ (0 - (q - r)).toNat * 2 ^ q.toNat * 2 ^ (-r).toNat := by simp only [Nat.pow_add]; ac_rfl
/-- a share: C times a power of two -/
def SHC (a : UInt64) (C n : Nat) : Prop := FP.Core.val64 a = .fin false C (-52 - (n : Int)) ∧ 2 ^ 52 ≤ C ∧ C < 2 ^ 53 ∧ n ≤ 60 ∧ (n = 0 → C = 2 ^ 52)
theorem shc_div {a t : Nat} (h0 : 0 < a) (h1 : a ≤ t) (h3 : t < 2 ^ 20) : ∃ C n, SHC (FP.ddiv (FP.i2d (nI a)) (FP.i2d (nI t))) C n := by
  have hdiv := div_rr h0 (show a < 2 ^ 20 by omega) (show 0 < t by omega) h3
  rcases Nat.lt_or_ge a t with hlt | hge
  · have hB : 0 < t := by omega
    obtain ⟨l1, l2⟩ := FP.Core.leading_spec h0 hB
    have b0 : FP.Core.Below a t 0 := by
      show a * 2 ^ 0 < t * 2 ^ 0
      omega
    have b20 : ¬ FP.Core.Below a t (-20) := by
      show ¬ a * 2 ^ 20 < t * 2 ^ 0
      omega
    have g1 := FP.Core.lt_of_below l1 b0
    have g2 := FP.Core.lt_of_below b20 l2
    obtain ⟨L, hL⟩ : ∃ L, L = FP.Core.leading a t := ⟨_, rfl⟩
    rw [← hL] at l1 l2 g1 g2
    have hq : FP.Core.quantum FP.Core.b64 a t 0 = L - 52 := by
      unfold FP.Core.quantum
      rw [← hL, qmin64]
      show max (-1074) (L + 0 - (((53 : Nat) : Int) - 1)) = _
      omega
    obtain ⟨N, hN⟩ : ∃ N, N = FP.Core.nearest (FP.Core.unitsNum a 0 (L - 52)) (FP.Core.unitsDen t 0 (L - 52)) := ⟨_, rfl⟩
    have n1 : 2 ^ 52 ≤ N := by
      rw [hN]
      refine FP.Core.nearest_ge (FP.Core.unitsDen_pos hB _ _) (Nat.le_of_not_lt fun hh => l1 ?_)
      have := (FP.Core.units_below a t 0 (L - 52) 52).mp hh
      rwa [show L - 52 - 0 + ((52 : Nat) : Int) = L by omega] at this
    have n2 : N ≤ 2 ^ 53 := by
      have := FP.Core.nearest_units_le (f := FP.Core.b64) h0 hB 0
      rw [hq] at this
      rw [hN]
      exact this
    have hr : FP.Core.roundRatio FP.Core.b64 false a t 0 = FP.Core.settle FP.Core.b64 false N (L - 52) := by
      unfold FP.Core.roundRatio
      rw [if_neg (by omega), hq, hN]
      rfl
    by_cases h53 : N < 2 ^ 53
    · refine ⟨N, (-L).toNat, ?_, n1, h53, by omega, by omega⟩
      rw [hdiv, hr]
      unfold FP.Core.settle FP.Core.bound
      rw [if_pos (show N < 2 ^ FP.Core.b64.p from h53), if_pos (by rw [qmax64]; omega), show -52 - (((-L).toNat : Nat) : Int) = L - 52 by omega]
    · refine ⟨2 ^ 52, (-L - 1).toNat, ?_, Nat.le_refl _, by omega, by omega, fun _ => rfl⟩
      rw [hdiv, hr]
      unfold FP.Core.settle FP.Core.bound
      rw [if_neg (show ¬ N < 2 ^ FP.Core.b64.p from h53), if_pos (by rw [qmax64]; omega), show -52 - (((-L - 1).toNat : Nat) : Int) = L - 52 + 1 by omega]
      rfl
  · have hat : a = t := by omega
    subst hat
    refine ⟨2 ^ 52, 0, ?_, Nat.le_refl _, by omega, by omega, fun _ => rfl⟩
    rw [hdiv]
    refine FP.Core.roundRatio_exact FP.Core.good_b64 h0 (fits_n (Nat.le_refl _) (by omega) (by omega) (by omega)) ?_
    rw [show ((0 : Int) - (-52 - ((0 : Nat) : Int))).toNat = 52 by omega, show ((-52 - ((0 : Nat) : Int)) - 0).toNat = 0 by omega]
    omega
theorem SHC.nn {a : UInt64} {C n : Nat} (h : SHC a C n) : vf_n64 a := n64_of (by rw [h.1]; exact fun q => nomatch q)
theorem tails64 : FP.Core.b64.tails = 2 ^ 52 := by decide
theorem exps64 : FP.Core.b64.exps = 2 ^ 11 := by decide
theorem enc_f {C T n : Nat} (hC : C = 2 ^ 52 + T) (hn : n ≤ 60) : FP.Core.encode FP.Core.b64 (.fin false C (-52 - (n : Int))) = (1023 - n) * 2 ^ 52 + T := by
  subst hC
  show (if 2 ^ 52 + T < FP.Core.b64.tails then FP.Core.assemble FP.Core.b64 false 0 (2 ^ 52 + T) else FP.Core.assemble FP.Core.b64 false ((-52 - (n : Int) - FP.Core.b64.qmin).toNat + 1) (2 ^ 52 + T - FP.Core.b64.tails)) = _
  unfold FP.Core.assemble
  rw [tails64, exps64, if_neg (by omega), qmin64, Nat.add_sub_cancel_left, show (-52 - (n : Int) - -1074).toNat + 1 = 1023 - n by omega]
  show (0 * 2 ^ 11 + (1023 - n)) * 2 ^ 52 + T = _
  rw [Nat.zero_mul, Nat.zero_add]
theorem u64_lt {X : Nat} (h : X < 2 ^ 64) : (UInt64.ofNat X).toNat = X := Nat.mod_eq_of_lt h
/-- the bits of a share -/
theorem SHC.bits {a : UInt64} {C n T : Nat} (h : SHC a C n) (hC : C = 2 ^ 52 + T) : a.toNat = (1023 - n) * 2 ^ 52 + T := by
  obtain ⟨h1, h2, h3, h4, -⟩ := h
  have hne : FP.Core.val64 a ≠ .nan := by rw [h1]; exact fun q => nomatch q
  have e : FP.Core.of64 (FP.Core.val64 a) = a := FP.Core.of64_val64 hne
  rw [h1] at e
  have e3 : a = UInt64.ofNat (FP.Core.encode FP.Core.b64 (.fin false C (-52 - (n : Int)))) := e.symm
  rw [enc_f hC h4] at e3
  rw [e3]
  refine u64_lt ?_
  have h5 : (1023 - n) * 2 ^ 52 ≤ 1023 * 2 ^ 52 := Nat.mul_le_mul_right _ (by omega)
  omega
theorem order_f {C n : Nat} (h2 : C < 2 ^ 53) {a : UInt64} (h : FP.Core.val64 a = .fin false C (-52 - (n : Int))) : FP.dcmp a FP.dconst1 = some (compare ((C : Nat) : Int) ((2 ^ 52 * 2 ^ n : Nat) : Int)) := by
  show FP.Core.order (FP.Core.val64 a) (FP.Core.val64 FP.Core.dconst1) = _
  rw [h, FP.Core.val64_dconst1]
  show some (compare (FP.Core.signed false (FP.Core.inUnits C (-52 - (n : Int)) (min (-52 - (n : Int)) (-52)))) (FP.Core.signed false (FP.Core.inUnits (2 ^ 52) (-52) (min (-52 - (n : Int)) (-52))))) = _
  rw [show min (-52 - (n : Int)) (-52) = -52 - (n : Int) by omega]
  unfold FP.Core.inUnits
  rw [show ((-52 - (n : Int)) - (-52 - (n : Int))).toNat = 0 by omega, show (-52 - (-52 - (n : Int))).toNat = n by omega, Nat.pow_zero, Nat.mul_one]
  rfl
/-- less than 1.0 just where a power of two is left -/
theorem cmp_lt {C n : Nat} (h2 : C < 2 ^ 53) {a : UInt64} (h : FP.Core.val64 a = .fin false C (-52 - ((n + 1 : Nat) : Int))) : Op.cmpValue (FP.dcmp a FP.dconst1) .g = -1 := by
  rw [order_f h2 h]
  have hp : 1 ≤ 2 ^ n := Nat.one_le_two_pow
  have hlt : (C : Int) < ((2 ^ 52 * 2 ^ (n + 1) : Nat) : Int) := by
    have : 2 ^ 53 ≤ 2 ^ 52 * 2 ^ (n + 1) := by
      rw [Nat.pow_succ]
      calc 2 ^ 53 = 2 ^ 52 * (1 * 2) := by omega
        _ ≤ 2 ^ 52 * (2 ^ n * 2) := Nat.mul_le_mul_left _ (Nat.mul_le_mul_right _ hp)
    omega
  rw [show compare ((C : Nat) : Int) ((2 ^ 52 * 2 ^ (n + 1) : Nat) : Int) = .lt from Int.compare_eq_lt.mpr hlt]
  rfl
theorem cmp_ge {C : Nat} (h1 : 2 ^ 52 ≤ C) (h2 : C < 2 ^ 53) {a : UInt64} (h : FP.Core.val64 a = .fin false C (-52 - ((0 : Nat) : Int))) : 0 ≤ Op.cmpValue (FP.dcmp a FP.dconst1) .g := by
  rw [order_f h2 h]
  rcases Int.lt_or_eq_of_le (show ((2 ^ 52 * 2 ^ 0 : Nat) : Int) ≤ (C : Int) by omega) with hh | hh
  · rw [show compare ((C : Nat) : Int) ((2 ^ 52 * 2 ^ 0 : Nat) : Int) = .gt from Int.compare_eq_gt.mpr hh]
    decide
  · rw [hh, FP.Core.compare_self_int]
    decide
theorem cmp_pos {C n : Nat} (h1 : 2 ^ 52 ≤ C) {a : UInt64} (h : FP.Core.val64 a = .fin false C (-52 - (n : Int))) : 0 < Op.cmpValue (FP.dcmp a FP.dconst0) .g := by
  have e : FP.dcmp a FP.dconst0 = some .gt := by
    show FP.Core.order (FP.Core.val64 a) (FP.Core.val64 FP.Core.dconst0) = _
    rw [h, FP.Core.val64_dconst0]
    show some (compare (FP.Core.signed false (FP.Core.inUnits C (-52 - (n : Int)) (min (-52 - (n : Int)) FP.Core.b64.qmin))) (FP.Core.signed false (FP.Core.inUnits 0 FP.Core.b64.qmin (min (-52 - (n : Int)) FP.Core.b64.qmin)))) = _
    have hp : 0 < FP.Core.inUnits C (-52 - (n : Int)) (min (-52 - (n : Int)) FP.Core.b64.qmin) := Nat.mul_pos (by omega) (Nat.two_pow_pos _)
    have hz : FP.Core.inUnits 0 FP.Core.b64.qmin (min (-52 - (n : Int)) FP.Core.b64.qmin) = 0 := Nat.zero_mul _
    rw [hz]
    congr 1
    exact Int.compare_eq_gt.mpr (show ((0 : Nat) : Int) < ((FP.Core.inUnits C (-52 - (n : Int)) (min (-52 - (n : Int)) FP.Core.b64.qmin) : Nat) : Int) by omega)
  rw [e]
  decide
/-- the digits behind the first one, as a long -/
theorem tail_l {C F : Nat} (hFC : C = 2 ^ 52 + F) (h1 : 2 ^ 52 ≤ C) (h2 : C < 2 ^ 53) {a : UInt64} (h : FP.Core.val64 a = .fin false C (-52)) :
    vf_n64 (FP.dsub a FP.dconst1) ∧ vf_n64 (FP.dmul (FP.dsub a FP.dconst1) 4841369599423283200) ∧ FP.d2l (FP.dmul (FP.dsub a FP.dconst1) 4841369599423283200) = Int64.ofNat F := by
  have hs := sub_one h h1 h2
  rw [show C - 2 ^ 52 = F by omega] at hs
  have hF2 : F < 2 ^ 52 := by omega
  -- the difference, as a number of its own
  obtain ⟨c, q, hv, hcq, hq⟩ : ∃ (c : Nat) (q : Int), FP.Core.val64 (FP.dsub a FP.dconst1) = .fin false c q ∧ q ≤ -52 ∧ c * 2 ^ 52 = F * 2 ^ (-q).toNat := by
    by_cases h0 : F = 0
    · subst h0
      refine ⟨0, FP.Core.b64.qmin, ?_, by rw [qmin64]; omega, by simp⟩
      rw [hs]
      rfl
    · -- exact
      have l1 : 2 ^ F.log2 ≤ F := Nat.log2_self_le h0
      have l2 : F < 2 ^ (F.log2 + 1) := Nat.lt_log2_self
      have l3 : F.log2 < 52 := (Nat.pow_lt_pow_iff_right (by decide : 1 < 2)).mp (Nat.lt_of_le_of_lt l1 hF2)
      obtain ⟨L, hL⟩ : ∃ L, L = F.log2 := ⟨_, rfl⟩
      rw [← hL] at l1 l2 l3
      have c1 : 2 ^ 52 ≤ F * 2 ^ (52 - L) := by
        calc 2 ^ 52 = 2 ^ L * 2 ^ (52 - L) := by rw [← Nat.pow_add]; congr 1; omega
          _ ≤ F * 2 ^ (52 - L) := Nat.mul_le_mul_right _ l1
      have c2 : F * 2 ^ (52 - L) < 2 ^ 53 := by
        calc F * 2 ^ (52 - L) < 2 ^ (L + 1) * 2 ^ (52 - L) := Nat.mul_lt_mul_of_pos_right l2 (Nat.two_pow_pos _)
          _ = 2 ^ 53 := by rw [← Nat.pow_add]; congr 1; omega
      refine ⟨F * 2 ^ (52 - L), -52 - ((52 - L : Nat) : Int), ?_, by omega, ?_⟩
      · rw [hs]
        refine FP.Core.roundRatio_exact FP.Core.good_b64 (by decide) (fits_n c1 c2 (by omega) (by omega)) ?_
        rw [show (-52 - (-52 - ((52 - L : Nat) : Int))).toNat = 52 - L by omega, show (-52 - ((52 - L : Nat) : Int) - -52).toNat = 0 by omega]
        omega
      · rw [show (-(-52 - ((52 - L : Nat) : Int))).toNat = (52 - L) + 52 by omega, Nat.pow_add, ← Nat.mul_assoc]
  have n1 : vf_n64 (FP.dsub a FP.dconst1) := n64_of (by rw [hv]; exact fun q => nomatch q)
  have e : FP.Core.val64 (FP.dmul (FP.dsub a FP.dconst1) 4841369599423283200) = FP.Core.round FP.Core.b64 (FP.Core.exactProduct (.fin false c q) (.fin false (2 ^ 52) 0)) := by
    rw [FP.Core.val64_dmul, hv, v_p52]
  have hw : FP.Core.Whole (F : Int) (FP.Core.exactProduct (.fin false c q) (.fin false (2 ^ 52) 0)) := by
    show FP.Core.signed false (c * 2 ^ 52 * 2 ^ (q + 0).toNat) = (F : Int) * ((2 ^ (-(q + 0)).toNat : Nat) : Int)
    rw [show (q + 0).toNat = 0 by omega, show (-(q + 0)).toNat = (-q).toNat by omega, Nat.pow_zero, Nat.mul_one, hq]
    show ((F * 2 ^ (-q).toNat : Nat) : Int) = _
    exact Int.natCast_mul _ _
  have hw2 : FP.Core.Whole (F : Int) (FP.Core.val64 (FP.dmul (FP.dsub a FP.dconst1) 4841369599423283200)) := by
    rw [e]
    exact FP.Core.whole_round FP.Core.good_b64 FP.Core.wide_b64 (by show (F : Int).natAbs ≤ 2 ^ 53; omega) hw
  refine ⟨n1, n64_of (fun hn => by rw [hn] at hw2; exact hw2), ?_⟩
  refine FP.Core.d2l_int ?_
  rw [Int64.toInt_ofNat_of_lt (by omega)]
  exact hw2
theorem long_dn : ∀ m : Nat, m < 1100 → 1 < m → (Int64.ofNat m > 1 ∧ Int64.ofNat m - 1 = Int64.ofNat (m - 1)) := by decide +kernel
theorem long_sh : ∀ n : Nat, n < 61 → Int64.ofNat (1023 - n) <<< ((52 : Int32).toInt64 &&& 63) = Int64.ofNat ((1023 - n) * 2 ^ 52) := by decide +kernel
theorem u64_i {X : Nat} : (UInt64.ofNat X).toInt64 = Int64.ofNat X := rfl
theorem SHC.long {a : UInt64} {C n T : Nat} (h : SHC a C n) (hC : C = 2 ^ 52 + T) : Int64.ofNat ((1023 - n) * 2 ^ 52) + Int64.ofNat T = a.toInt64 := by
  have hb := h.bits hC
  have ha : a = UInt64.ofNat ((1023 - n) * 2 ^ 52 + T) := by
    rw [← hb]
    exact (UInt64.ofNat_toNat).symm
  rw [ha, ← Int64.ofNat_add, u64_i]
/-- a share, or 0 -/
def SH0 (a : UInt64) : Prop := a = FP.dconst0 ∨ ∃ C n, SHC a C n
def shrS (oa ow : Nat) : UInt64 := if oa + ow = 0 then FP.dconst1 else FP.ddiv (FP.i2d (nI oa)) (FP.i2d (nI (oa + ow)))
theorem div_0 {t : Nat} (h0 : 0 < t) (h3 : t < 2 ^ 20) : FP.ddiv (FP.i2d (nI 0)) (FP.i2d (nI t)) = FP.dconst0 := by
  obtain ⟨d, r, ht, hd, -⟩ := dint_nat h0 h3
  have e : FP.Core.val64 (FP.ddiv (FP.i2d (nI 0)) (FP.i2d (nI t))) = FP.Core.quotient FP.Core.b64 (FP.Core.val64 (FP.i2d (nI 0))) (FP.Core.val64 (FP.i2d (nI t))) := FP.Core.val64_ddiv _ _
  have z : FP.Core.val64 (FP.i2d (nI 0)) = .fin false 0 FP.Core.b64.qmin := by decide +kernel
  rw [ht, z] at e
  have e2 : FP.Core.val64 (FP.ddiv (FP.i2d (nI 0)) (FP.i2d (nI t))) = .fin false 0 FP.Core.b64.qmin := by
    rw [e]
    show (if d = 0 then _ else FP.Core.roundRatio FP.Core.b64 (false != false) 0 d (FP.Core.b64.qmin - r)) = _
    rw [if_neg (by omega)]
    rfl
  refine FP.Core.val64_inj (by rw [e2]; exact fun q => nomatch q) ?_
  rw [e2]
  exact FP.Core.val64_dconst0.symm
theorem shr_ok {oa ow : Nat} (h : oa + ow < 2 ^ 20) : SH0 (shrS oa ow) := by
  unfold shrS
  by_cases h0 : oa + ow = 0
  · rw [if_pos h0]
    exact Or.inr ⟨2 ^ 52, 0, FP.Core.val64_dconst1, Nat.le_refl _, by omega, by omega, fun _ => rfl⟩
  · rw [if_neg h0]
    by_cases h1 : oa = 0
    · subst h1
      rw [div_0 (by omega) h]
      exact Or.inl rfl
    · exact Or.inr (shc_div (by omega) (by omega) h)
theorem SH0.nn {a : UInt64} (h : SH0 a) : vf_n64 a := by
  rcases h with rfl | ⟨C, n, h⟩
  · exact n64_of (by show FP.Core.val64 FP.Core.dconst0 ≠ _; rw [FP.Core.val64_dconst0]; exact fun q => nomatch q)
  · exact h.nn
theorem SH0.vn {a : UInt64} (h : SH0 a) : FP.Core.val64 a ≠ .nan := by
  rcases h with rfl | ⟨C, n, h⟩
  · show FP.Core.val64 FP.Core.dconst0 ≠ _; rw [FP.Core.val64_dconst0]; exact fun q => nomatch q
  · rw [h.1]; exact fun q => nomatch q
theorem SH0.self {a : UInt64} (h : SH0 a) (op : CmpOp) : Op.cmpValue (FP.dcmp a a) op = 0 := by
  have e : FP.dcmp a a = some .eq := FP.Core.dcmp_self h.vn
  rw [e]
  rfl
