def MRaw : Prop := Cond.methodLink "java/lang/Double" 134 ⟨"java/lang/Double", "doubleToRawLongBits", "(D)J"⟩ ∈ TB ∧ Cond.native ⟨"java/lang/Double", "doubleToRawLongBits", "(D)J"⟩ ∈ TB ∧ Cond.static ⟨"java/lang/Double", "doubleToRawLongBits", "(D)J"⟩ ∈ TB ∧ Cond.initialized "java/lang/Double" ∈ TB
theorem kl_d2raw : MRaw := ⟨tbm (i := 1100) (by decide +kernel) (by decide +kernel), tbm (i := 1102) (by decide +kernel) (by decide +kernel), tbm (i := 1101) (by decide +kernel) (by decide +kernel), tbm (i := 55) (by decide +kernel) (by decide +kernel)⟩
theorem rm_d2raw {p : Program} {l : Launch} {e : Env} {R : Room} {s : State} {m : MethodId} {args : Array Value} {below : List Frame} {meth : Method} {c : Code} {cc : ByteArray} {nL : Nat} {ret : Option FieldType} {D : va_G} {cy : Nat → ClassId} {ad : Ads} {A : Nat → Prop} {G : Heap → Prop} {nc ns : Nat} {Q : State → Prop} {pc : Nat} {ls : List (Nat × Value)} {rest : List Value} {b : UInt64} (hc : CX p s m args meth c cc nL "java/lang/Double" ret D cy ad) (hd : decode cc pc = .ok (.invokestatic 134, 3)) (hk : MRaw) (h1 : 1 ≤ R.frames) (h2 : (rest.map fun v => v.category).sum + 15 ≤ R.locals) (h3 : nc ≤ R.cells ∧ ns ≤ R.slots) (kk : RM p l e R s m args below meth c nL A G nc ns Q (pc + 3) ls (.long b.toInt64 :: rest)) : RM p l e R s m args below meth c nL A G nc ns Q pc ls (.double b :: rest) :=
  fun H locs la hP hS hl => vn_d2l hc.1.1 hc.1.2.1 (by rw [hl.1]; exact hc.1.2.2.1) hc.1.2.2.2.1 (hc.1.2.2.2.2 _ hk.1) (hc.1.2.2.2.2 _ hk.2.1) (hc.1.2.2.2.2 _ hk.2.2.1) (hc.1.2.2.2.2 _ hk.2.2.2) h1 h2 hd (kk H locs la hP hS hl)
abbrev rm_Jxe99ae_isNaN_b9ae7 : Room := { frames := 0, cells := 0, slots := 0, locals := 0 }

abbrev rm_Jxe99ae_doubleToLongBits_ccdee : Room := { frames := 1, cells := 0, slots := 0, locals := 40 }

abbrev rm_X9_share : Room := { frames := 4, cells := 0, slots := 0, locals := 89 }

abbrev rm_X9_openShare : Room := { frames := 5, cells := 0, slots := 0, locals := 111 }

abbrev rm_X9_digest : Room := { frames := 7, cells := 0, slots := 0, locals := 173 }

abbrev rm_X8_openShare : Room := { frames := 1, cells := 0, slots := 0, locals := 25 }

abbrev rm_X8_shareBits : Room := { frames := 0, cells := 0, slots := 0, locals := 0 }

abbrev rm_X8_digest : Room := { frames := 6, cells := 0, slots := 0, locals := 149 }

set_option maxHeartbeats 4000000 in
set_option maxRecDepth 100000 in
theorem c_X8_openShare {l : Launch} {D : va_G} {cy : Nat → ClassId} {ad : Ads} (hI : IJ ad) (x : Mem) {oa ow : Nat} (hoa : sum3 (x 0 32) (x 0 54) (x 0 76) = nI oa) (how : sum3 (x 0 34) (x 0 56) (x 0 78) = nI ow) (hso : oa + ow < 2 ^ 20) : Ctd l yX8_openShare cX8_openShare 3 (some .double) rm_X8_openShare D cy ad [.ref (ad 8 9 0)] x (fun r y => r = shrS oa ow ∧ y = x) := by
  refine rm_entry (Qc := Qd D cy ad (fun r y => r = shrS oa ow ∧ y = x)) hI (by decide) (Nat.le_of_ble_eq_true rfl) ?_
  intro p e s m args below meth c hc
  show RM _ _ _ _ _ _ _ _ _ _ _ _ _ _ _ _ _ [(0, .ref (ad 8 9 0))] []
  refine rm_aload_n hc dX8_openShare_0 rfl rfl ?_
  refine rm_get hc dX8_openShare_1 fl_X8_10 dm_9 rfl rfl ?_
  refine rm_calliV (As := []) (rest := []) hc dX8_openShare_4 (c_X6_timesOpened hI x (k := 0) (by omega)) mv_X8_194 (dm_0 (by omega)) rfl rfl (hn := rfl) (hst := rfl) (hw := Nat.le_of_ble_eq_true rfl) (hR := ⟨⟨rfl, rfl⟩, Nat.le_of_ble_eq_true rfl, Nat.le_of_ble_eq_true rfl⟩) (hnc := ⟨Nat.zero_le _, Nat.zero_le _⟩) (fun r_1 y_1 h_1 => ?_)
  obtain ⟨e_1, ey_1⟩ := h_1
  obtain rfl := ey_1.symm
  obtain rfl : r_1 = nI oa := e_1.trans hoa
  refine rm_istore_n (ls' := [(0, .ref (ad 8 9 0)), (1, .int (nI (oa)))]) hc dX8_openShare_7 rfl (by decide) rfl ?_
  refine rm_iload_n hc dX8_openShare_8 rfl rfl ?_
  refine rm_aload_n hc dX8_openShare_9 rfl rfl ?_
  refine rm_get hc dX8_openShare_10 fl_X8_10 dm_9 rfl rfl ?_
  refine rm_calliV (As := []) (rest := [.int (nI (oa))]) hc dX8_openShare_13 (c_X6_wrongNumbers hI x (k := 0) (by omega)) mv_X8_197 (dm_0 (by omega)) rfl rfl (hn := rfl) (hst := rfl) (hw := Nat.le_of_ble_eq_true rfl) (hR := ⟨⟨rfl, rfl⟩, Nat.le_of_ble_eq_true rfl, Nat.le_of_ble_eq_true rfl⟩) (hnc := ⟨Nat.zero_le _, Nat.zero_le _⟩) (fun r_2 y_2 h_2 => ?_)
  obtain ⟨e_2, ey_2⟩ := h_2
  obtain rfl := ey_2.symm
  obtain rfl : r_2 = nI ow := e_2.trans how
  refine rm_iadd hc dX8_openShare_16 (fun v_3 e_3 => ?_)
  obtain rfl : v_3 = (nI (oa + ow)) := e_3.trans (nadd (m := oa) (n := ow) (by omega))
  clear e_3
  refine rm_istore_n (ls' := [(0, .ref (ad 8 9 0)), (1, .int (nI (oa))), (2, .int (nI (oa + ow)))]) hc dX8_openShare_17 rfl (by decide) rfl ?_
  refine rm_iload_n hc dX8_openShare_18 rfl rfl ?_
  rcases Nat.eq_zero_or_pos (oa + ow) with hz | hz
  · --
    refine rm_if_gt (tgt := 24) hc dX8_openShare_19 (by decide) (fun h => absurd h (fun h2 => absurd ((nI_ltI (a := 0) (b := oa + ow) (by omega) (by omega)).mp h2) (by omega))) (fun _ => ?_)
    refine rm_dconst1 hc dX8_openShare_22 ?_
    exact rm_dret hc dX8_openShare_23 ⟨by unfold shrS; rw [if_pos hz], rfl⟩
  · --
    have hnn : vf_n64 (FP.ddiv (FP.i2d (nI oa)) (FP.i2d (nI (oa + ow)))) := by have h9 := (shr_ok hso).nn; unfold shrS at h9; rwa [if_neg (by omega)] at h9
    refine rm_if_gt (tgt := 24) hc dX8_openShare_19 (by decide) (fun _ => ?_) (fun h => absurd ((nI_ltI (a := 0) (b := oa + ow) (by omega) (by omega)).mpr (by omega)) h)
    refine rm_iload_n hc dX8_openShare_24 rfl rfl ?_
    refine rm_i2d hc dX8_openShare_25 (fun v_5 e_5 => ?_)
    refine rm_iload_n hc dX8_openShare_26 rfl rfl ?_
    refine rm_i2d hc dX8_openShare_27 (fun v_6 e_6 => ?_)
    refine rm_ddiv hc dX8_openShare_28 (by subst_vars; exact hnn) (fun v_7 e_7 => ?_)
    exact rm_dret hc dX8_openShare_29 ⟨by unfold shrS; rw [if_neg (by omega)]; subst_vars; rfl, rfl⟩

set_option maxHeartbeats 4000000 in
set_option maxRecDepth 100000 in
theorem c_X8_shareBits_0 {l : Launch} {D : va_G} {cy : Nat → ClassId} {ad : Ads} (hI : IJ ad) (x : Mem)  : Ctl l yX8_shareBits cX8_shareBits 6 (some .long) rm_X8_shareBits D cy ad [.double FP.dconst0] x (fun r y => r = FP.dconst0.toInt64 ∧ y = x) := by
  refine rm_entry (Qc := Ql D cy ad (fun r y => r = FP.dconst0.toInt64 ∧ y = x)) hI (by decide) (Nat.le_of_ble_eq_true rfl) ?_
  intro p e s m args below meth c hc
  show RM _ _ _ _ _ _ _ _ _ _ _ _ _ _ _ _ _ [(0, .double FP.dconst0)] []
  refine rm_dload_n hc dX8_shareBits_0 rfl rfl ?_
  refine rm_dconst0 hc dX8_shareBits_1 ?_
  refine rm_dcmp hc dX8_shareBits_2 (fun v_1 e_1 => ?_)
  refine rm_if_gt (tgt := 8) hc dX8_shareBits_3 (by decide) (fun h => absurd h (by rw [e_1, SH0.self (Or.inl rfl)]; decide)) (fun _ => ?_)
  refine rm_lconst (v := 0) hc dX8_shareBits_6 (by decide) ?_
  exact rm_lret hc dX8_shareBits_7 ⟨by decide, rfl⟩

set_option maxHeartbeats 4000000 in
set_option maxRecDepth 100000 in
theorem c_X8_shareBits_1 {l : Launch} {D : va_G} {cy : Nat → ClassId} {ad : Ads} (hI : IJ ad) (x : Mem) {a : UInt64} {C n : Nat} (hs : SHC a C n) : Ctl l yX8_shareBits cX8_shareBits 6 (some .long) rm_X8_shareBits D cy ad [.double a] x (fun r y => r = a.toInt64 ∧ y = x) := by
  have hn60 := hs.2.2.2.1
  obtain ⟨T1, hC⟩ : ∃ T1, C = 2 ^ 52 + T1 := ⟨C - 2 ^ 52, by have := hs.2.1; omega⟩
  refine rm_entry (Qc := Ql D cy ad (fun r y => r = a.toInt64 ∧ y = x)) hI (by decide) (Nat.le_of_ble_eq_true rfl) ?_
  intro p e s m args below meth c hc
  show RM _ _ _ _ _ _ _ _ _ _ _ _ _ _ _ _ _ [(0, .double a)] []
  refine rm_dload_n hc dX8_shareBits_0 rfl rfl ?_
  refine rm_dconst0 hc dX8_shareBits_1 ?_
  refine rm_dcmp hc dX8_shareBits_2 (fun v_1 e_1 => ?_)
  refine rm_if_gt (tgt := 8) hc dX8_shareBits_3 (by decide) (fun _ => ?_) (fun h => absurd (by rw [e_1]; exact cmp_pos hs.2.1 hs.1) h)
  refine rm_dload_n hc dX8_shareBits_8 rfl rfl ?_
  refine rm_dstore_n (ls' := [(0, .double a), (2, .double a)]) hc dX8_shareBits_9 rfl (by decide) rfl ?_
  refine rm_ldc2 hc dX8_shareBits_10 kc_X8_278 ?_
  refine rm_lstore (ls' := [(0, .double a), (2, .double a), (4, .long 1023)]) hc dX8_shareBits_13 (by decide) rfl ?_
  have key15 : ∀ (f : Nat) (k : Nat) (fr : UInt64), k = f → k ≤ n → FP.Core.val64 fr = .fin false C (-52 - (k : Int)) → RM p l e rm_X8_shareBits s m args below meth c 6 (AA ad s.heap.size) (GG D cy ad x) 0 0 (QQ (Ql D cy ad (fun r y => r = a.toInt64 ∧ y = x)) below args s ad) 15 [(0, .double a), (2, .double fr), (4, .long (Int64.ofNat (1023 - n + k)))] [] := by
    intro f
    induction f with
    | zero =>
      intro k fr hk hkn hfr
      have hfr0 : FP.Core.val64 fr = .fin false C (-52) := by rw [hk] at hfr; simpa using hfr
      refine rm_dload_n hc dX8_shareBits_15 rfl rfl ?_
      refine rm_dconst1 hc dX8_shareBits_16 ?_
      refine rm_dcmp hc dX8_shareBits_17 (fun v_3 e_3 => ?_)
      refine rm_if_ge (tgt := 43) hc dX8_shareBits_18 (by decide) (fun _ => ?_) (fun h => absurd (by rw [e_3]; exact cmp_ge hs.2.1 hs.2.2.1 (by rw [hk] at hfr; exact hfr)) h)
      refine rm_lload hc dX8_shareBits_43 rfl ?_
      refine rm_bipush (v := 52) hc dX8_shareBits_45 (by decide) ?_
      refine rm_lshl hc dX8_shareBits_47 (fun v_5 e_5 => ?_)
      refine rm_dload_n hc dX8_shareBits_48 rfl rfl ?_
      refine rm_dconst1 hc dX8_shareBits_49 ?_
      refine rm_dsub hc dX8_shareBits_50 (tail_l hC hs.2.1 hs.2.2.1 hfr0).1 (fun v_6 e_6 => ?_)
      refine rm_ldc2d hc dX8_shareBits_51 kc_X8_282 ?_
      refine rm_dmul hc dX8_shareBits_54 (by subst_vars; exact (tail_l rfl hs.2.1 hs.2.2.1 hfr0).2.1) (fun v_7 e_7 => ?_)
      refine rm_d2l hc dX8_shareBits_55 (fun v_8 e_8 => ?_)
      refine rm_ladd hc dX8_shareBits_56 (fun v_9 e_9 => ?_)
      exact rm_lret hc dX8_shareBits_57 ⟨by subst_vars; rw [Nat.add_zero, (tail_l rfl hs.2.1 hs.2.2.1 hfr0).2.2, long_sh n (by omega)]; exact hs.long rfl, rfl⟩
    | succ f ih =>
      intro k fr hk hkn hfr
      have hfr1 : FP.Core.val64 fr = .fin false C (-52 - ((f + 1 : Nat) : Int)) := by rw [hk] at hfr; exact hfr
      have hm : FP.Core.val64 (FP.dmul fr 4611686018427387904) = .fin false C (-52 - (f : Int)) := by rw [mul_p2 hfr1 v_two hs.2.1 hs.2.2.1 (by omega) (by omega)]; congr 1; omega
      refine rm_dload_n hc dX8_shareBits_15 rfl rfl ?_
      refine rm_dconst1 hc dX8_shareBits_16 ?_
      refine rm_dcmp hc dX8_shareBits_17 (fun v_10 e_10 => ?_)
      refine rm_if_ge (tgt := 43) hc dX8_shareBits_18 (by decide) (fun h => absurd h (by rw [e_10, cmp_lt hs.2.2.1 hfr1]; decide)) (fun _ => ?_)
      refine rm_lload hc dX8_shareBits_21 rfl ?_
      refine rm_lconst (v := 1) hc dX8_shareBits_23 (by decide) ?_
      refine rm_lcmp hc dX8_shareBits_24 (fun v_12 e_12 => ?_)
      refine rm_if_le (tgt := 43) hc dX8_shareBits_25 (by decide) (fun h => absurd h (by rw [e_12, if_pos (long_dn _ (by omega) (by omega)).1]; decide)) (fun _ => ?_)
      refine rm_dload_n hc dX8_shareBits_28 rfl rfl ?_
      refine rm_ldc2d hc dX8_shareBits_29 kc_X8_280 ?_
      refine rm_dmul hc dX8_shareBits_32 (n64_of (by rw [hm]; exact fun q => nomatch q)) (fun v_14 e_14 => ?_)
      refine rm_dstore_n (ls' := [(0, .double a), (2, .double v_14), (4, .long (Int64.ofNat (1023 - n + k)))]) hc dX8_shareBits_33 rfl (by decide) rfl ?_
      refine rm_lload hc dX8_shareBits_34 rfl ?_
      refine rm_lconst (v := 1) hc dX8_shareBits_36 (by decide) ?_
      refine rm_lsub hc dX8_shareBits_37 (fun v_15 e_15 => ?_)
      refine rm_lstore (ls' := [(0, .double a), (2, .double v_14), (4, .long v_15)]) hc dX8_shareBits_38 (by decide) rfl ?_
      refine rm_goto (tgt := 15) hc dX8_shareBits_40 (by decide) ?_
      obtain rfl : v_15 = Int64.ofNat (1023 - n + f) := by rw [e_15, hk]; exact (long_dn _ (by omega) (by omega)).2
      exact ih f _ rfl (by omega) (by rw [e_14]; exact hm)
  rw [show (1023 : Int64) = Int64.ofNat (1023 - n + n) by rw [show 1023 - n + n = 1023 by omega]; rfl]
  exact key15 n n _ rfl (Nat.le_refl _) hs.1

theorem c_X8_shareBits {l : Launch} {D : va_G} {cy : Nat → ClassId} {ad : Ads} (hI : IJ ad) (x : Mem) {a : UInt64} (h : SH0 a) : Ctl l yX8_shareBits cX8_shareBits 6 (some .long) rm_X8_shareBits D cy ad [.double a] x (fun r y => r = a.toInt64 ∧ y = x) := by
  rcases h with rfl | ⟨C, n, h⟩
  · exact c_X8_shareBits_0 hI x
  · exact c_X8_shareBits_1 hI x h

set_option maxHeartbeats 4000000 in
set_option maxRecDepth 100000 in
theorem c_isNaN {l : Launch} {D : va_G} {cy : Nat → ClassId} {ad : Ads} (hI : IJ ad) (x : Mem) {a : UInt64} (h0 : SH0 a) : Cti l yJxe99ae_isNaN_b9ae7 cJxe99ae_isNaN_b9ae7 2 (some .boolean) rm_Jxe99ae_isNaN_b9ae7 D cy ad [.double a] x (fun r y => r = 0 ∧ y = x) := by
  refine rm_entry (Qc := Qi D cy ad (fun r y => r = 0 ∧ y = x)) hI (by decide) (Nat.le_of_ble_eq_true rfl) ?_
  intro p e s m args below meth c hc
  show RM _ _ _ _ _ _ _ _ _ _ _ _ _ _ _ _ _ [(0, .double a)] []
  refine rm_dload_n hc dJxe99ae_isNaN_b9ae7_0 rfl rfl ?_
  refine rm_dload_n hc dJxe99ae_isNaN_b9ae7_1 rfl rfl ?_
  refine rm_dcmp hc dJxe99ae_isNaN_b9ae7_2 (fun v_1 e_1 => ?_)
  refine rm_if_eq (tgt := 10) hc dJxe99ae_isNaN_b9ae7_3 (by decide) (fun _ => ?_) (fun h => absurd (by rw [e_1]; exact h0.self _) h)
  refine rm_iconst (v := 0) hc dJxe99ae_isNaN_b9ae7_10 (by decide) ?_
  exact rm_zret hc dJxe99ae_isNaN_b9ae7_11 rfl ⟨rfl, rfl⟩

set_option maxHeartbeats 4000000 in
set_option maxRecDepth 100000 in
theorem c_d2lb {l : Launch} {D : va_G} {cy : Nat → ClassId} {ad : Ads} (hI : IJ ad) (x : Mem) {a : UInt64} (h0 : SH0 a) : Ctl l yJxe99ae_doubleToLongBits_ccdee cJxe99ae_doubleToLongBits_ccdee 2 (some .long) rm_Jxe99ae_doubleToLongBits_ccdee D cy ad [.double a] x (fun r y => r = a.toInt64 ∧ y = x) := by
  refine rm_entry (Qc := Ql D cy ad (fun r y => r = a.toInt64 ∧ y = x)) hI (by decide) (Nat.le_of_ble_eq_true rfl) ?_
  intro p e s m args below meth c hc
  show RM _ _ _ _ _ _ _ _ _ _ _ _ _ _ _ _ _ [(0, .double a)] []
  refine rm_dload_n hc dJxe99ae_doubleToLongBits_ccdee_0 rfl rfl ?_
  refine rm_calliS (As := [.double a]) (rest := []) hc dJxe99ae_doubleToLongBits_ccdee_1 (c_isNaN hI x h0) ms_Jxe99ae_122 (hn := rfl) (hst := rfl) (hw := Nat.le_of_ble_eq_true rfl) (hR := ⟨⟨rfl, rfl⟩, Nat.le_of_ble_eq_true rfl, Nat.le_of_ble_eq_true rfl⟩) (hnc := ⟨Nat.zero_le _, Nat.zero_le _⟩) (fun r_1 y_1 h_1 => ?_)
  obtain ⟨e_1, ey_1⟩ := h_1
  obtain rfl := ey_1.symm
  obtain rfl : r_1 = 0 := e_1
  refine rm_if_ne (tgt := 12) hc dJxe99ae_doubleToLongBits_ccdee_4 (by decide) (fun h => absurd h (by decide)) (fun _ => ?_)
  refine rm_dload_n hc dJxe99ae_doubleToLongBits_ccdee_7 rfl rfl ?_
  refine rm_d2raw hc dJxe99ae_doubleToLongBits_ccdee_8 kl_d2raw (Nat.le_of_ble_eq_true rfl) (Nat.le_of_ble_eq_true rfl) ⟨Nat.zero_le _, Nat.zero_le _⟩ ?_
  exact rm_lret hc dJxe99ae_doubleToLongBits_ccdee_11 ⟨rfl, rfl⟩

set_option maxHeartbeats 4000000 in
set_option maxRecDepth 100000 in
theorem c_X9_share {l : Launch} {D : va_G} {cy : Nat → ClassId} {ad : Ads} (hI : IJ ad) (x : Mem) {oa ow : Nat} (hoa : ofDs x 4 = nI oa) (how : ofDs x 6 = nI ow) (hso : oa + ow < 2 ^ 20) : Ctd l yX9_share cX9_share 3 (some .double) rm_X9_share D cy ad [.ref (ad 15 14 0)] x (fun r y => r = shrS oa ow ∧ y = x) := by
  refine rm_entry (Qc := Qd D cy ad (fun r y => r = shrS oa ow ∧ y = x)) hI (by decide) (Nat.le_of_ble_eq_true rfl) ?_
  intro p e s m args below meth c hc
  show RM _ _ _ _ _ _ _ _ _ _ _ _ _ _ _ _ _ [(0, .ref (ad 15 14 0))] []
  refine rm_aload_n hc dX9_share_0 rfl rfl ?_
  refine rm_iconst (v := 4) hc dX9_share_1 (by decide) ?_
  refine rm_calliV (As := [.int 4]) (rest := []) hc dX9_share_2 (c_X9_ofDoors_4 hI x) mv_X9_159 dm_14 rfl rfl (hn := rfl) (hst := rfl) (hw := Nat.le_of_ble_eq_true rfl) (hR := ⟨⟨rfl, rfl⟩, Nat.le_of_ble_eq_true rfl, Nat.le_of_ble_eq_true rfl⟩) (hnc := ⟨Nat.zero_le _, Nat.zero_le _⟩) (fun r_1 y_1 h_1 => ?_)
  obtain ⟨e_1, ey_1⟩ := h_1
  obtain rfl := ey_1.symm
  obtain rfl : r_1 = nI oa := e_1.trans hoa
  refine rm_istore_n (ls' := [(0, .ref (ad 15 14 0)), (1, .int (nI (oa)))]) hc dX9_share_5 rfl (by decide) rfl ?_
  refine rm_iload_n hc dX9_share_6 rfl rfl ?_
  refine rm_aload_n hc dX9_share_7 rfl rfl ?_
  refine rm_bipush (v := 6) hc dX9_share_8 (by decide) ?_
  refine rm_calliV (As := [.int 6]) (rest := [.int (nI (oa))]) hc dX9_share_10 (c_X9_ofDoors_6 hI x) mv_X9_159 dm_14 rfl rfl (hn := rfl) (hst := rfl) (hw := Nat.le_of_ble_eq_true rfl) (hR := ⟨⟨rfl, rfl⟩, Nat.le_of_ble_eq_true rfl, Nat.le_of_ble_eq_true rfl⟩) (hnc := ⟨Nat.zero_le _, Nat.zero_le _⟩) (fun r_2 y_2 h_2 => ?_)
  obtain ⟨e_2, ey_2⟩ := h_2
  obtain rfl := ey_2.symm
  obtain rfl : r_2 = nI ow := e_2.trans how
  refine rm_iadd hc dX9_share_13 (fun v_3 e_3 => ?_)
  obtain rfl : v_3 = (nI (oa + ow)) := e_3.trans (nadd (m := oa) (n := ow) (by omega))
  clear e_3
  refine rm_istore_n (ls' := [(0, .ref (ad 15 14 0)), (1, .int (nI (oa))), (2, .int (nI (oa + ow)))]) hc dX9_share_14 rfl (by decide) rfl ?_
  refine rm_iload_n hc dX9_share_15 rfl rfl ?_
  rcases Nat.eq_zero_or_pos (oa + ow) with hz | hz
  · --
    refine rm_if_ne (tgt := 23) hc dX9_share_16 (by decide) (fun h => absurd ((nI_eq (a := oa + ow) (b := 0) (by omega) (by omega)).mpr (by omega)) h) (fun _ => ?_)
    refine rm_dconst1 hc dX9_share_19 ?_
    refine rm_goto (tgt := 28) hc dX9_share_20 (by decide) ?_
    exact rm_dret hc dX9_share_28 ⟨by unfold shrS; rw [if_pos hz], rfl⟩
  · --
    have hnn : vf_n64 (FP.ddiv (FP.i2d (nI oa)) (FP.i2d (nI (oa + ow)))) := by have h9 := (shr_ok hso).nn; unfold shrS at h9; rwa [if_neg (by omega)] at h9
    refine rm_if_ne (tgt := 23) hc dX9_share_16 (by decide) (fun _ => ?_) (fun h => absurd h (fun h2 => absurd ((nI_eq (a := oa + ow) (b := 0) (by omega) (by omega)).mp h2) (by omega)))
    refine rm_iload_n hc dX9_share_23 rfl rfl ?_
    refine rm_i2d hc dX9_share_24 (fun v_5 e_5 => ?_)
    refine rm_iload_n hc dX9_share_25 rfl rfl ?_
    refine rm_i2d hc dX9_share_26 (fun v_6 e_6 => ?_)
    refine rm_ddiv hc dX9_share_27 (by subst_vars; exact hnn) (fun v_7 e_7 => ?_)
    exact rm_dret hc dX9_share_28 ⟨by unfold shrS; rw [if_neg (by omega)]; subst_vars; rfl, rfl⟩

set_option maxHeartbeats 4000000 in
set_option maxRecDepth 100000 in
theorem c_X9_openShare {l : Launch} {D : va_G} {cy : Nat → ClassId} {ad : Ads} (hI : IJ ad) (x : Mem) {oa ow : Nat} (hoa : ofDs x 4 = nI oa) (how : ofDs x 6 = nI ow) (hso : oa + ow < 2 ^ 20) : Ctd l yX9_openShare cX9_openShare 1 (some .double) rm_X9_openShare D cy ad [.ref (ad 15 14 0)] x (fun r y => r = shrS oa ow ∧ y = T0 x) := by
  refine rm_entry (Qc := Qd D cy ad (fun r y => r = shrS oa ow ∧ y = T0 x)) hI (by decide) (Nat.le_of_ble_eq_true rfl) ?_
  intro p e s m args below meth c hc
  show RM _ _ _ _ _ _ _ _ _ _ _ _ _ _ _ _ _ [(0, .ref (ad 15 14 0))] []
  refine rm_aload_n hc dX9_openShare_0 rfl rfl ?_
  refine rm_iconst (v := 0) hc dX9_openShare_1 (by decide) ?_
  refine rm_put hc dX9_openShare_2 fl_X9_25 dm_14 rfl (Nat.le_of_ble_eq_true rfl) ft_9_6 rfl rfl so_14_6 (rm_nm (fun x_1 ex_1 => ?_))
  refine rm_aload_n hc dX9_openShare_5 rfl rfl ?_
  refine rm_calldV (As := []) (rest := []) hc dX9_openShare_6 (c_X9_share hI x_1 (oa := oa) (ow := ow) (by subst_vars; exact (ofDs_b T0_10').trans hoa) (by subst_vars; exact (ofDs_b T0_10').trans how) hso) mv_X9_175 dm_14 rfl rfl (hn := rfl) (hst := rfl) (hw := Nat.le_of_ble_eq_true rfl) (hR := ⟨⟨rfl, rfl⟩, Nat.le_of_ble_eq_true rfl, Nat.le_of_ble_eq_true rfl⟩) (hnc := ⟨Nat.zero_le _, Nat.zero_le _⟩) (fun r_2 y_2 h_2 => ?_)
  obtain ⟨e_2, ey_2⟩ := h_2
  obtain rfl := ey_2.symm
  exact rm_dret hc dX9_openShare_9 ⟨by subst_vars; rfl, by subst_vars; rfl⟩
