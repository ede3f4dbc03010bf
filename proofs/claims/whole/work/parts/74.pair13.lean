/-! ===== play, clearBuffer, firstError, the share and the digest, on both sides ===== -/
theorem TI.pl {a : Mem} {mm : Nat} : ∀ (f : Nat) (z : Mem) (s i dn : Nat), TI a z mm → TI a (plS mm f z s i dn).2 mm
  | 0, _, _, _, _, h => h
  | f + 1, z, s, i, dn, h => by
    by_cases h1 : endS z (nI i) = 0
    · rw [pl_n h1]
      exact TI.pl f _ _ _ _ h
    · by_cases h2 : (ppS z s i mm).1 = 0
      · rw [pl_0 h1 h2]
        exact h.pp
      · rw [pl_y h1 h2]
        exact TI.pl f _ _ _ _ h.pp
theorem plM_b {mm b : Nat} {x0 : Mem} {st : Nat → Nat} (hb : b ≠ 10) : ∀ (f : Nat) (z : Mem) (t : Nat), (plM mm x0 st f z t).2 b = z b
  | 0, _, _ => rfl
  | f + 1, z, t => by
    by_cases h : (pdM x0 z (st t) (st (t + 1) - 1) mm).1 = 0
    · rw [plM_0 h]
      exact funext fun n => pd_b hb
    · rw [plM_y h, plM_b hb f _ _]
      exact funext fun n => pd_b hb
theorem pr_play {l : Launch} {D : va_G} {cy : Nat → ClassId} {ad : Ads} (hI : IJ ad) (hfl : l.stackTraces = false) {x : Mem} {B : Nat} (h : INV x x B) (hB : 3 * B < 2 ^ 20) :
    PR l D cy ad x B yL_play cL_play 3 hh_play rmw_play [.ref (ad 8 9 0), .ref (ad 16 19 0)] yX9_play cX9_play 2 rm_X9_play [.ref (ad 15 14 0)] := by
  have hF := h.fl0
  have h' := h
  obtain ⟨hR, ⟨mm, hG⟩, -, ⟨nq, kq, hx⟩, tl, hT⟩ := h'
  have hIV := hG.iv
  obtain ⟨hRS, hRF, hw, hmm, nr, hr8, hnr⟩ := hG.iv
  have hw0 : x 0 1 = nI mm := (hR.lo (n := 1) (by omega)).trans hw
  have hnr0 : x 0 5 = nI nr := (hR.lo (n := 5) (by omega)).trans hnr
  rcases comp_b (stA x tl) with hc | hc
  · refine ⟨_, w_play_1 hI x (x_play_1 hI x hfl hT.2.1 hT.1 hc), fun k y1 hk => ⟨_, c_X9_play hI y1 x (tl := tl) (by rw [hk.2]; exact hT) mm (by rw [hk.2]; exact hIV) hx.2.1 (by rw [hk.2]; exact hx.2.2.2.2.1), fun b y2 hb => ?_⟩⟩
    obtain ⟨e1, e2⟩ := hk
    subst e1 e2
    rcases hb with ⟨-, h2, hM⟩ | ⟨T, st, w, -, h5, -⟩
    · have yb : ∀ k, k ≠ 14 → k ≠ 15 → y2 k = y1 k := fun k k14 k15 => funext fun n => (up_b _ _ _ k15).symm.trans (hM k n k14 (fun q => k15 q.1))
      have y15 : ∀ n, n < 2 → y2 15 n = y1 15 n := fun n hn => (up_n _ _ (by omega)).symm.trans (hM 15 n (by omega) (by omega))
      exact ⟨h2, fun q => absurd q (by decide), h.fr (by omega) (fun k hk => yb k (by omega) (by omega)) (yb 8 (by omega) (by omega)) (yb 9 (by omega) (by omega)) (yb 10 (by omega) (by omega)) (yb 12 (by omega) (by omega)) (yb 13 (by omega) (by omega)) (y15 0 (by omega)) (y15 1 (by omega))⟩
    · rw [comp_5 h5] at hc
      exact absurd hc (by decide)
  · refine ⟨_, w_play hI x (c_X8_play hI x hT.2.1 hT.1 hc (pws hT hc) hx.1 ((hx.2.2.1.nxt hB).lo (Nat.zero_le _)) hF mm (by omega) hw0 hnr0 hr8), fun k y1 hk => ?_⟩
    obtain ⟨e1, v, z, ⟨hv, hz⟩, hy⟩ := hk
    have hzb : ∀ k, k ≠ 0 → (plS mm (tl + 1) (kpM x nq) 0 0 0).2 k = kpM x nq k := fun k hk => (TI.pl _ _ _ _ _ ⟨fun _ _ => rfl, by rw [kp_b0]; exact hw0, nr, hr8, by rw [kp_b0]; exact hnr0⟩).1 k hk
    have yz : ∀ k, k ≠ 16 → y1 k = z k := fun k k16 => by
      rw [hy]
      exact funext fun n => up_b _ _ _ k16
    have z8 : ∀ k, k ≠ 8 → z k = (plS mm (tl + 1) (kpM x nq) 0 0 0).2 k := fun k k8 => by
      rw [hz]
      exact funext fun n => up_b _ _ _ k8
    have yx : ∀ k, 9 ≤ k → k ≠ 16 → y1 k = x k := fun k k9 k16 => by
      have h6 := hx.1
      rw [yz k k16, z8 k (by omega), hzb k (by omega)]
      exact funext fun n => kpM_9 (by omega) (by omega)
    have hT1 : TXR x y1 tl := hT.fr rfl rfl (yx 13 (by omega) (by omega)) (by rw [yx 15 (by omega) (by omega)])
    have y10 := yx 10 (by omega) (by omega)
    refine ⟨_, c_X9_play hI y1 x hT1 mm (by rw [y10]; exact hIV) hx.2.1 (by rw [yx 15 (by omega) (by omega)]; exact hx.2.2.2.2.1), fun b y2 hb => ?_⟩
    rcases hb with ⟨⟨q, hq⟩, -, -⟩ | ⟨T, st, w, hO, -, hr, hM⟩
    · rw [text_no hq] at hc
      exact absurd hc (by decide)
    · have s10 : up (svM (T0 y1) kq) 15 1 0 10 = x 10 := (funext fun n => up_b _ _ _ (by omega)).trans (sv0.trans y10)
      have hRl : Rl (kpM x nq 0) (up (svM (T0 y1) kq) 15 1 0 10) := by rw [kp_b0, s10]; exact hR
      have hGd : GD (up (svM (T0 y1) kq) 15 1 0 10) mm B := by rw [s10]; exact hG
      have hT20 : T ≤ 20 := hO.2.2.1
      have S := pl_sim hT hO T 0 B (kpM x nq) (up (svM (T0 y1) kq) 15 1 0) (by omega) (kpM_82 hx.1) (funext fun n => kpM_9 (by have := hx.1; omega) (by omega)) hRl hGd
      rw [hO.1, Nat.sub_zero] at S
      obtain ⟨S1, S2, S3, -⟩ := S
      have pb : ∀ k, k ≠ 10 → (plM mm x st T (up (svM (T0 y1) kq) 15 1 0) 0).2 k = up (svM (T0 y1) kq) 15 1 0 k := fun k hk => plM_b hk _ _ _
      have yb : ∀ k, k ≠ 14 → k ≠ 15 → k ≠ 10 → y2 k = svM (T0 y1) kq k := fun k k14 k15 k10 => by
        rw [hM.blk k15 k14, pb k k10]
        exact funext fun n => up_b _ _ _ k15
      have y15 : ∀ n, n < 3 → n ≠ 1 → y2 15 n = svM (T0 y1) kq 15 n := fun n hn n1 => by
        rw [hM 15 n (by omega) (by omega), pb 15 (by omega)]
        exact up_n _ _ n1
      have y151 : y2 15 1 = 0 := by
        rw [hM 15 1 (by omega) (by omega), pb 15 (by omega)]
        exact up_s _ _ _ _
      have y2lo : ∀ k, k < 10 → y2 k = z k := fun k hk => (yb k (by omega) (by omega) (by omega)).trans ((sv_lo hk).trans (yz k (by omega)))
      have f12 : svM (T0 y1) kq 12 = svM x kq 12 := sv_cg hx.2.1 ((T0_b (by omega)).trans y10) ((T0_b (by omega)).trans (yx 12 (by omega) (by omega)))
      have y210 : y2 10 = (plM mm x st T (up (svM (T0 y1) kq) 15 1 0) 0).2 10 := hM.blk (by omega) (by omega)
      have s1 : INV (plS mm (tl + 1) (kpM x nq) 0 0 0).2 (up y2 15 1 (x 15 1)) (B + 60) := INV.step h hx (by omega) hzb ((funext fun n => up_b _ _ _ (by omega)).trans ((yb 12 (by omega) (by omega) (by omega)).trans f12)) ((funext fun n => up_b _ _ _ (by omega)).trans ((yb 13 (by omega) (by omega) (by omega)).trans (sv_13.trans (yx 13 (by omega) (by omega)))))
        ((up_n _ _ (by omega)).trans ((y15 0 (by omega) (by omega)).trans ((sv_15 hx.2.1).trans (sv_15 hx.2.1).symm))) (up_s _ _ _ _) ?_ ?_
      · refine ⟨?_, fun _ => ?_, s1.txt (Nat.le_refl _) (fun k hk => (y2lo k (by omega)).trans (z8 k (by omega))) ?_ ?_ (funext fun n => (up_b _ _ _ (by omega)).symm) (funext fun n => (up_b _ _ _ (by omega)).symm) (up_n _ _ (by omega)).symm ⟨0, by omega, ?_, y151, fun i hi => absurd hi (by omega)⟩⟩
        · rw [y15 2 (by omega) (by omega), e1]
          exact sv_152
        · rw [yb 16 (by omega) (by omega) (by omega), sv_16, hy, up_s, hv, hr, S1]
        · rw [y2lo 8 (by omega), hz, up_n _ _ (by omega)]
        · rw [y2lo 8 (by omega), hz, up_n _ _ (by omega)]
        · rw [y2lo 8 (by omega), hz]
          exact up_s _ _ _ _
      · rw [show up y2 15 1 (x 15 1) 10 = y2 10 from funext fun n => up_b _ _ _ (by omega), y210]
        exact S2
      · rw [show up y2 15 1 (x 15 1) 10 = y2 10 from funext fun n => up_b _ _ _ (by omega), y210]
        exact ⟨mm, S3.le (by omega)⟩
/-- a call that nothing is thrown by, on both sides: one answer, and what always holds -/
def PQi (l : Launch) (D : va_G) (cy : Nat → ClassId) (ad : Ads) (x : Mem) (B : Nat) (yc : MethodName) (cc : ByteArray) (nc : Nat) (rmc : Room) (ym : MethodName) (cm : ByteArray) (nm : Nat) (rmm : Room) : Prop :=
  ∃ P1 : Int32 → Mem → Prop, Cti l yc cc nc (some .int) rmc D cy ad [.ref (ad 8 9 0)] x P1 ∧ ∀ a y1, P1 a y1 → ∃ P2 : Int32 → Mem → Prop, Cti l ym cm nm (some .int) rmm D cy ad [.ref (ad 15 14 0)] y1 P2 ∧ ∀ b y2, P2 b y2 → b = a ∧ INV y2 y2 (B + 60)
def PQl (l : Launch) (D : va_G) (cy : Nat → ClassId) (ad : Ads) (x : Mem) (B : Nat) (yc : MethodName) (cc : ByteArray) (nc : Nat) (rmc : Room) (ym : MethodName) (cm : ByteArray) (nm : Nat) (rmm : Room) : Prop :=
  ∃ P1 : Int64 → Mem → Prop, Ctl l yc cc nc (some .long) rmc D cy ad [.ref (ad 8 9 0)] x P1 ∧ ∀ a y1, P1 a y1 → ∃ P2 : Int64 → Mem → Prop, Ctl l ym cm nm (some .long) rmm D cy ad [.ref (ad 15 14 0)] y1 P2 ∧ ∀ b y2, P2 b y2 → b = a ∧ INV y2 y2 (B + 60)
def PQd (l : Launch) (D : va_G) (cy : Nat → ClassId) (ad : Ads) (x : Mem) (B : Nat) (yc : MethodName) (cc : ByteArray) (nc : Nat) (rmc : Room) (ym : MethodName) (cm : ByteArray) (nm : Nat) (rmm : Room) : Prop :=
  ∃ P1 : UInt64 → Mem → Prop, Ctd l yc cc nc (some .double) rmc D cy ad [.ref (ad 8 9 0)] x P1 ∧ ∀ a y1, P1 a y1 → ∃ P2 : UInt64 → Mem → Prop, Ctd l ym cm nm (some .double) rmm D cy ad [.ref (ad 15 14 0)] y1 P2 ∧ ∀ b y2, P2 b y2 → b = a ∧ SH0 a ∧ INV y2 y2 (B + 60)
theorem pq_clear {l : Launch} {D : va_G} {cy : Nat → ClassId} {ad : Ads} (hI : IJ ad) {x : Mem} {B : Nat} (h : INV x x B) : PQi l D cy ad x B yX8_clearBuffer cX8_clearBuffer 2 rm_X8_clearBuffer yX9_clearBuffer cX9_clearBuffer 2 rm_X9_clearBuffer := by
  have h' := h
  obtain ⟨-, -, -, -, tl, hT⟩ := h'
  refine ⟨_, c_X8_clearBuffer hI x, fun a y1 ha => ⟨_, c_X9_clearBuffer hI y1, fun b y2 hb => ?_⟩⟩
  obtain ⟨a1, a2⟩ := ha
  obtain ⟨b1, b2⟩ := hb
  have yx : ∀ k, k ≠ 8 → y1 k = x k := fun k k8 => by
    rw [a2]
    exact funext fun n => up_b _ _ _ k8
  have y2b : ∀ k, k ≠ 15 → y2 k = y1 k := fun k k15 => by
    rw [b2]
    exact funext fun n => (up_b _ _ _ k15).trans (up_b _ _ _ k15)
  refine ⟨?_, h.txt (by omega) (fun k hk => (y2b k (by omega)).trans (yx k (by omega))) ?_ ?_ ((y2b 10 (by omega)).trans (yx 10 (by omega))) ((y2b 12 (by omega)).trans (yx 12 (by omega))) ?_ ⟨0, by omega, ?_, ?_, fun i hi => absurd hi (by omega)⟩⟩
  · rw [a1, b1, yx 15 (by omega), hT.2.1, hT.2.2.1]
  · rw [y2b 8 (by omega), a2, up_n _ _ (by omega)]
  · rw [y2b 8 (by omega), a2, up_n _ _ (by omega)]
  · rw [b2, up_n _ _ (by omega), show T0 y1 15 0 = y1 15 0 from up_n _ _ (by omega), yx 15 (by omega)]
  · rw [y2b 8 (by omega), a2]
    exact up_s _ _ _ _
  · rw [b2]
    exact up_s _ _ _ _
theorem pq_first {l : Launch} {D : va_G} {cy : Nat → ClassId} {ad : Ads} (hI : IJ ad) {x : Mem} {B : Nat} (h : INV x x B) : PQi l D cy ad x B yX8_firstError cX8_firstError 1 rm_X8_firstError yX9_firstError cX9_firstError 2 rm_X9_firstError := by
  have h' := h
  obtain ⟨-, -, -, -, tl, hT⟩ := h'
  refine ⟨_, c_X8_firstError hI x hT.2.1 hT.1, fun a y1 ha => ⟨_, c_X9_firstError hI y1 x (tl := tl) (by rw [ha.2]; exact hT), fun b y2 hb => ?_⟩⟩
  obtain ⟨a1, a2⟩ := ha
  obtain ⟨b1, hM⟩ := hb
  subst a2
  have yb : ∀ k, k ≠ 14 → k ≠ 15 → y2 k = y1 k := fun k k14 k15 => funext fun n => (hM k n k14 (fun q => k15 q.1)).trans (up_b _ _ _ k15)
  have y15 : ∀ n, n < 2 → y2 15 n = y1 15 n := fun n hn => (hM 15 n (by omega) (by omega)).trans (up_n _ _ (by omega))
  exact ⟨b1.trans a1.symm, h.fr (by omega) (fun k hk => yb k (by omega) (by omega)) (yb 8 (by omega) (by omega)) (yb 9 (by omega) (by omega)) (yb 10 (by omega) (by omega)) (yb 12 (by omega) (by omega)) (yb 13 (by omega) (by omega)) (y15 0 (by omega)) (y15 1 (by omega))⟩
theorem sum3_n {a b c : Nat} : sum3 (nI a) (nI b) (nI c) = nI (a + b + c) := by
  unfold sum3
  rw [zadd, nI_add, nI_add]
theorem sums {x : Mem} {B mm : Nat} (hR : Rl (x 0) (x 10)) (hG : GD (x 10) mm B) (hB : 3 * B < 2 ^ 20) : ∃ oa ow : Nat, sum3 (x 0 32) (x 0 54) (x 0 76) = nI oa ∧ sum3 (x 0 34) (x 0 56) (x 0 78) = nI ow ∧ oa + ow < 2 ^ 20 ∧ ∀ y : Mem, y 10 = x 10 → ofDs y 4 = nI oa ∧ ofDs y 6 = nI ow := by
  obtain ⟨o0, w0, a0, b0, c0⟩ := hG.owb 0 (by omega)
  obtain ⟨o1, w1, a1, b1, c1⟩ := hG.owb 1 (by omega)
  obtain ⟨o2, w2, a2, b2, c2⟩ := hG.owb 2 (by omega)
  have e0 : x 0 32 = nI o0 := ((hR.2 0 (by omega)).1 2 (by omega)).trans a0
  have e1 : x 0 54 = nI o1 := ((hR.2 1 (by omega)).1 2 (by omega)).trans a1
  have e2 : x 0 76 = nI o2 := ((hR.2 2 (by omega)).1 2 (by omega)).trans a2
  have f0 : x 0 34 = nI w0 := ((hR.2 0 (by omega)).1 4 (by omega)).trans b0
  have f1 : x 0 56 = nI w1 := ((hR.2 1 (by omega)).1 4 (by omega)).trans b1
  have f2 : x 0 78 = nI w2 := ((hR.2 2 (by omega)).1 4 (by omega)).trans b2
  refine ⟨o0 + o1 + o2, w0 + w1 + w2, by rw [e0, e1, e2, sum3_n], by rw [f0, f1, f2, sum3_n], by omega, fun y hy => ⟨?_, ?_⟩⟩
  · show sum3 (y 10 32) (y 10 54) (y 10 76) = _
    rw [hy, show x 10 32 = nI o0 from a0, show x 10 54 = nI o1 from a1, show x 10 76 = nI o2 from a2, sum3_n]
  · show sum3 (y 10 34) (y 10 56) (y 10 78) = _
    rw [hy, show x 10 34 = nI w0 from b0, show x 10 56 = nI w1 from b1, show x 10 78 = nI w2 from b2, sum3_n]
theorem pq_share {l : Launch} {D : va_G} {cy : Nat → ClassId} {ad : Ads} (hI : IJ ad) {x : Mem} {B : Nat} (h : INV x x B) (hB : 3 * B < 2 ^ 20) : PQd l D cy ad x B yX8_openShare cX8_openShare 3 rm_X8_openShare yX9_openShare cX9_openShare 1 rm_X9_openShare := by
  have h' := h
  obtain ⟨hR, ⟨mm, hG⟩, -, -, -⟩ := h'
  obtain ⟨oa, ow, s1, s2, s3, s4⟩ := sums hR hG hB
  refine ⟨_, c_X8_openShare hI x s1 s2 s3, fun a y1 ha => ⟨_, c_X9_openShare hI y1 (s4 y1 (by rw [ha.2])).1 (s4 y1 (by rw [ha.2])).2 s3, fun b y2 hb => ?_⟩⟩
  obtain ⟨a1, a2⟩ := ha
  obtain ⟨b1, b2⟩ := hb
  subst a2 b2
  exact ⟨b1.trans a1.symm, by rw [a1]; exact shr_ok s3, h.t0 (by omega)⟩
theorem pq_digest {l : Launch} {D : va_G} {cy : Nat → ClassId} {ad : Ads} (hI : IJ ad) {x : Mem} {B : Nat} (h : INV x x B) (hB : 3 * B < 2 ^ 20) : PQl l D cy ad x B yX8_digest cX8_digest 8 rm_X8_digest yX9_digest cX9_digest 5 rm_X9_digest := by
  have hF := h.fl0
  have h' := h
  obtain ⟨hR, ⟨mm, hG⟩, -, ⟨nq, kq, hx⟩, tl, hT⟩ := h'
  obtain ⟨oa, ow, s1, s2, s3, s4⟩ := sums hR hG hB
  obtain ⟨hRS, hRF, hw, hmm, nr, hr8, hnr⟩ := hG.iv
  have hw0 : x 0 1 = nI mm := (hR.lo (n := 1) (by omega)).trans hw
  have hnr0 : x 0 5 = nI nr := (hR.lo (n := 5) (by omega)).trans hnr
  obtain ⟨nb, hnb⟩ : ∃ nb : Nat → Nat, ∀ j, j < 4 → nb j ≤ 999 ∧ x 0 (16 + 4 * j) = nI (nb j) := by
    obtain ⟨n0, a0, b0⟩ := hG.bt 0 (by omega)
    obtain ⟨n1, a1, b1⟩ := hG.bt 1 (by omega)
    obtain ⟨n2, a2, b2⟩ := hG.bt 2 (by omega)
    obtain ⟨n3, a3, b3⟩ := hG.bt 3 (by omega)
    refine ⟨fun j => if j = 0 then n0 else if j = 1 then n1 else if j = 2 then n2 else n3, fun j hj => ?_⟩
    rcases (show j = 0 ∨ j = 1 ∨ j = 2 ∨ j = 3 by omega) with q | q | q | q <;> subst q
    · exact ⟨a0, (hR.lo (n := 16) (by omega)).trans b0⟩
    · exact ⟨a1, (hR.lo (n := 20) (by omega)).trans b1⟩
    · exact ⟨a2, (hR.lo (n := 24) (by omega)).trans b2⟩
    · exact ⟨a3, (hR.lo (n := 28) (by omega)).trans b3⟩
  refine ⟨_, c_X8_digest hI x mm (by omega) hw0 hF hnr0 hr8 (fun j hj => (hnb j hj).2) (fun j hj => (hnb j hj).1) s1 s2 s3 hT.2.1 hT.1, fun a y1 ha => ?_⟩
  obtain ⟨a1, hE⟩ := ha
  have y10 : y1 10 = x 10 := hE 10 (by omega)
  have y15 : y1 15 = x 15 := hE 15 (by omega)
  have y13 : y1 13 = x 13 := hE 13 (by omega)
  refine ⟨_, c_X9_digest hI y1 (tl := tl) (by rw [y10]; exact hRS) mm hmm (by rw [y10]; exact hw) (by rw [y10]; exact hRF) (by rw [y10]; exact hnr) hr8 (s4 y1 y10).1 (s4 y1 y10).2 s3 (by rw [y15]; exact hT.2.2.1) hT.1, fun b y2 hb => ?_⟩
  obtain ⟨b1, hM⟩ := hb
  have t10 : T0 y1 10 = x 10 := (T0_b (by omega)).trans y10
  have e : dgC x mm nr nb oa ow tl = dgM (T0 y1) mm nr oa ow tl := dg_rl (by rw [t10]; exact hR) (by rw [t10]; exact hRS) (by rw [t10]; exact hG.df) hr8 (by rw [t10]; exact hnr) (fun j hj => (hnb j hj).2) (fun j hj => (hnb j hj).1)
    (by rw [show T0 y1 15 0 = y1 15 0 from up_n _ _ (by omega), y15, hx.2.2.2.1, hx.2.2.2.2.1])
    (fun i hi => by
      obtain ⟨c, -, -, q1, q2⟩ := hT.c (MT.rf x) hi
      rw [show T0 y1 13 = y1 13 from T0_b (by omega), y13, q1, q2])
  have yb : ∀ k, k ≠ 15 → k ≠ 11 → y2 k = y1 k := fun k k15 k11 => (hM.blk k15 k11).trans (T0_b k15)
  have yk : ∀ k, k ≠ 15 → k ≠ 11 → k ≠ 7 → y2 k = x k := fun k k15 k11 k7 => (yb k k15 k11).trans (hE k k7)
  have y2i : ∀ n, n < 2 → y2 15 n = x 15 n := fun n hn => by
    rw [hM 15 n (Or.inl (by omega)) (by omega), show T0 y1 15 n = y1 15 n from up_n _ _ (by omega), y15]
  exact ⟨b1.trans (e.symm.trans a1.symm), h.fr (by omega) (fun k hk => yk k (by omega) (by omega) (by omega)) (yk 8 (by omega) (by omega) (by omega)) (yk 9 (by omega) (by omega) (by omega)) (yk 10 (by omega) (by omega) (by omega)) (yk 12 (by omega) (by omega) (by omega)) (yk 13 (by omega) (by omega) (by omega)) (y2i 0 (by omega)) (y2i 1 (by omega))⟩
