/-! ===== calls on both sides: the two patterns ===== -/
theorem pr_fail {l : Launch} {D : va_G} {cy : Nat → ClassId} {ad : Ads} {x : Mem} {B : Nat} {yl : MethodName} {cl : ByteArray} {nl : Nat} {hh : List (Nat × Nat × Nat × Nat)} {rml : Room} {Asl : List Value} {ym : MethodName} {cm : ByteArray} {nm : Nat} {rmm : Room} {Asm : List Value} {kk : Int32} (h : INV x x B) (hk : kk ≠ 0)
    (hw : Ctw l yl cl nl hh rml D cy ad Asl x (fun r y => r = kk ∧ y = x)) (hm : Cti l ym cm nm (some .int) rmm D cy ad Asm x (fun r y => r = 0 ∧ y = TF x kk)) : PR l D cy ad x B yl cl nl hh rml Asl ym cm nm rmm Asm := by
  refine ⟨_, hw, fun k y1 he => ?_⟩
  obtain ⟨e1, e2⟩ := he
  subst e1 e2
  refine ⟨_, hm, fun b y2 hb => ?_⟩
  obtain ⟨e3, e4⟩ := hb
  subst e4
  exact ⟨up_s _ _ _ _, fun q => absurd q hk, h.tf (by omega)⟩
theorem pr_ok {l : Launch} {D : va_G} {cy : Nat → ClassId} {ad : Ads} {x : Mem} {B : Nat} {yl : MethodName} {cl : ByteArray} {nl : Nat} {hh : List (Nat × Nat × Nat × Nat)} {rml : Room} {Asl : List Value} {ym : MethodName} {cm : ByteArray} {nm : Nat} {rmm : Room} {Asm : List Value} {nq kq : Nat} (h : INV x x B) (hx : HX x x B nq kq) {r0 : Int32} {z0 : Mem}
    (hw : Ctw l yl cl nl hh rml D cy ad Asl x (fun r y => r = 0 ∧ ∃ v z, (v = r0 ∧ z = z0) ∧ y = up z 16 0 v)) (hz : ∀ k, k ≠ 0 → z0 k = kpM x nq k)
    (hm : ∀ y1 : Mem, y1 10 = x 10 → y1 15 0 = nI kq → ∃ W1 : Mem, (∀ k, k ≠ 10 → W1 k = svM (T0 y1) kq k) ∧ Rl (z0 0) (W1 10) ∧ (∃ mm', GD (W1 10) mm' (B + 60)) ∧ ∃ P2 : Int32 → Mem → Prop, Cti l ym cm nm (some .int) rmm D cy ad Asm y1 P2 ∧ ∀ r y, P2 r y → r = r0 ∧ M7 W1 y) : PR l D cy ad x B yl cl nl hh rml Asl ym cm nm rmm Asm := by
  refine ⟨_, hw, fun k y1 hk => ?_⟩
  obtain ⟨e1, v, z, ⟨hv, hz0⟩, hy⟩ := hk
  subst hz0
  have ym1 := fun (k : Nat) (h9 : 9 ≤ k) (h16 : k ≠ 16) => y_mod hx.1 hz hy h9 h16
  obtain ⟨W1, w1, w2, w3, P2, w4, w5⟩ := hm y1 (ym1 10 (by omega) (by omega)) (by rw [ym1 15 (by omega) (by omega)]; exact hx.2.2.2.2.1)
  refine ⟨_, w4, fun b y2 hb => ?_⟩
  obtain ⟨hb1, hM⟩ := w5 _ _ hb
  have yb : ∀ k, k ≠ 15 → y2 k = W1 k := fun k hk => hM.blk hk
  have y15 : ∀ n, n ≠ 6 → n ≠ 7 → y2 15 n = svM (T0 y1) kq 15 n := fun n n6 n7 => (hM 15 n (fun q => q.2.elim n6 n7)).trans (by rw [w1 15 (by omega)])
  refine ⟨?_, fun _ => ?_, h.pair hx (by omega) hz hy (fun k hk => (yb k (by omega)).trans ((w1 k (by omega)).trans (sv_lo hk))) ((yb 12 (by omega)).trans (w1 12 (by omega))) ((yb 13 (by omega)).trans ((w1 13 (by omega)).trans sv_13)) (y15 0 (by omega) (by omega)) ((y15 1 (by omega) (by omega)).trans (sv_151 (by omega) (by omega))) ?_ ?_⟩
  · rw [y15 2 (by omega) (by omega), e1]
    exact sv_152
  · rw [yb 16 (by omega), w1 16 (by omega), sv_16, hy, up_s, hv, hb1]
  · rw [yb 10 (by omega)]
    exact w2
  · rw [yb 10 (by omega)]
    exact w3
