/-! ===== set, append, undo, on both sides ===== -/
theorem rg_1 {v : Int32} {n : Nat} {hi : Int32} (hh : hi = nI n) (hn : n < 2 ^ 20) : (v < 1 ∨ hi < v) ∨ (¬ v < 1 ∧ ¬ hi < v ∧ ∃ j : Nat, j ≤ n ∧ v = nI j) := by
  rcases rg_hi (v := v) hh hn with h | ⟨h1, h2, j, hj, e⟩
  · refine Or.inl (h.imp (fun q => ?_) id)
    rw [Int32.lt_iff_toInt_lt] at q ⊢
    have e0 : (0 : Int32).toInt = 0 := by decide
    have e1 : (1 : Int32).toInt = 1 := by decide
    rw [e0] at q
    rw [e1]
    omega
  · by_cases q : v < 1
    · exact Or.inl (Or.inl q)
    · exact Or.inr ⟨q, h2, j, hj, e⟩
theorem inM_l {v lo hi : Int32} (h : v < lo ∨ hi < v) : inM v lo hi = 0 := by
  unfold inM
  by_cases h1 : v < lo
  · rw [if_pos h1]
  · rw [if_neg h1, if_pos (h.resolve_left h1)]
theorem chg_n {y : Mem} {w : Nat} {v : Int32} (hw : w < 3) : chgS y 0 (nI w) v = up y 0 w v := by
  rcases (show w = 0 ∨ w = 1 ∨ w = 2 by omega) with q | q | q <;> subst q <;> rfl
theorem pr_set_o {l : Launch} {D : va_G} {cy : Nat → ClassId} {ad : Ads} (hI : IJ ad) {x : Mem} {B : Nat} (h : INV x x B) (hB : 3 * B < 2 ^ 20) {w : Nat} (hw3 : w < 3) (p1 lov hiv : Int32) (love : lov = if nI w = 2 then 0 else 1) (hive : hiv = if nI w = 0 then 64 else if nI w = 1 then 500 else 20) (hv1 : ¬ p1 < lov) (hv2 : ¬ hiv < p1)
    (hg : ∀ (u : Mem) (mm : Nat), GD (u 10) mm B → ∃ mm', GD (up u 10 w p1 10) mm' B)
    (hm : ∀ (y1 : Mem) (kq : Nat), kq ≤ 6 → y1 15 0 = nI kq → Cti l yX9_set cX9_set 3 (some .int) rm_X9_set D cy ad [.ref (ad 15 14 0), .int (nI w), .int p1] y1 (fun r y => r = y1 10 w ∧ y = up (svM (T0 y1) kq) 10 w p1)) :
    PR l D cy ad x B yL_set cL_set 5 hh_set rmw_set [.ref (ad 8 9 0), .int (nI w), .int p1, .ref (ad 16 19 0)] yX9_set cX9_set 3 rm_X9_set [.ref (ad 15 14 0), .int (nI w), .int p1] := by
  have hF := h.fl0
  have h' := h
  obtain ⟨hR, ⟨mm, hG⟩, -, ⟨nq, kq, hx⟩, -⟩ := h'
  have m1 : ¬ (nI w : Int32) < 0 := fun q => absurd ((nI_ltI (a := w) (b := 0) (by omega) (by omega)).mp q) (by omega)
  have m2 : (nI w : Int32) < 3 := (nI_ltI (a := w) (b := 3) (by omega) (by omega)).mpr hw3
  refine pr_ok h hx (w_set hI x (nI w) p1 (c_X8_set hI x (nI w) p1 lov hiv love hive m1 m2 hv1 hv2 hx.1 ((hx.2.2.1.nxt hB).lo (Nat.zero_le _)) hF)) (fun k hk => ?_) (fun y1 y10 y150 => ?_)
  · rw [chg_n hw3]
    exact funext fun n => up_b _ _ _ hk
  · have s10 : svM (T0 y1) kq 10 = x 10 := sv0.trans y10
    have hRl : Rl (kpM x nq 0) (svM (T0 y1) kq 10) := by rw [kp_b0, s10]; exact hR
    have hGd : GD (svM (T0 y1) kq 10) mm B := by rw [s10]; exact hG
    refine ⟨up (svM (T0 y1) kq) 10 w p1, up_w, ?_, ?_, _, hm y1 kq hx.2.1 y150, fun r y hh => ⟨hh.1.trans ?_, by rw [hh.2]; exact M7.rf _⟩⟩
    · rw [chg_n hw3]
      exact upl_rl hRl (by omega)
    · obtain ⟨mm', q⟩ := hg _ _ hGd
      exact ⟨mm', q.le (by omega)⟩
    · rw [y10]
      exact (val_rl hR hw3).symm
theorem pr_set {l : Launch} {D : va_G} {cy : Nat → ClassId} {ad : Ads} (hI : IJ ad) (hfl : l.stackTraces = false) {x : Mem} {B : Nat} (h : INV x x B) (hB : 3 * B < 2 ^ 20) (p0 p1 : Int32) :
    PR l D cy ad x B yL_set cL_set 5 hh_set rmw_set [.ref (ad 8 9 0), .int p0, .int p1, .ref (ad 16 19 0)] yX9_set cX9_set 3 rm_X9_set [.ref (ad 15 14 0), .int p0, .int p1] := by
  rcases rg_or p0 3 (by omega) with h0 | ⟨w, hw, rfl⟩
  · exact pr_fail h (by decide) (w_set_1 hI x p0 p1 (x_set_1 hI x hfl p0 p1 h0)) (c_X9_set_1 hI x p0 p1 (inM_o (n := 2) rfl (by omega) h0))
  · have m1 : ¬ (nI w : Int32) < 0 := fun q => absurd ((nI_ltI (a := w) (b := 0) (by omega) (by omega)).mp q) (by omega)
    have m2 : (nI w : Int32) < 3 := (nI_ltI (a := w) (b := 3) (by omega) (by omega)).mpr hw
    rcases (show w = 0 ∨ w = 1 ∨ w = 2 by omega) with q | q | q <;> subst q
    · rcases rg_1 (v := p1) (n := 64) (hi := 64) rfl (by omega) with h1 | ⟨n1, n2, -⟩
      · exact pr_fail h (by decide) (w_set_2 hI x (nI 0) p1 (x_set_2 hI x hfl (nI 0) p1 1 64 (by decide) (by decide) m1 m2 h1)) (c_X9_set_2_0 hI x p1 (inM_l h1))
      · exact pr_set_o hI h hB (w := 0) (by omega) p1 1 64 (by decide) (by decide) n1 n2 (fun u mm q => ⟨mm, st_gd q (Or.inl rfl)⟩) (fun y1 kq h6 e => c_X9_set_o0 hI y1 p1 n1 n2 h6 e)
    · rcases rg_1 (v := p1) (n := 500) (hi := 500) rfl (by omega) with h1 | ⟨n1, n2, j, hj, e⟩
      · exact pr_fail h (by decide) (w_set_2 hI x (nI 1) p1 (x_set_2 hI x hfl (nI 1) p1 1 500 (by decide) (by decide) m1 m2 h1)) (c_X9_set_2_1 hI x p1 (inM_l h1))
      · exact pr_set_o hI h hB (w := 1) (by omega) p1 1 500 (by decide) (by decide) n1 n2 (fun u mm q => ⟨j, by rw [e]; exact s1_gd q hj⟩) (fun y1 kq h6 e => c_X9_set_o1 hI y1 p1 n1 n2 h6 e)
    · rcases rg_hi (v := p1) (n := 20) (hi := 20) rfl (by omega) with h1 | ⟨n1, n2, -⟩
      · exact pr_fail h (by decide) (w_set_2 hI x (nI 2) p1 (x_set_2 hI x hfl (nI 2) p1 0 20 (by decide) (by decide) m1 m2 h1)) (c_X9_set_2_2 hI x p1 (inM_l h1))
      · exact pr_set_o hI h hB (w := 2) (by omega) p1 0 20 (by decide) (by decide) n1 n2 (fun u mm q => ⟨mm, st_gd q (Or.inr rfl)⟩) (fun y1 kq h6 e => c_X9_set_o2 hI y1 p1 n1 n2 h6 e)
theorem INV.txt {a b a' b' : Mem} {B B' : Nat} (h : INV a b B) (hB : B ≤ B') (e1 : ∀ k, k < 7 → a' k = a k) (e2 : a' 8 0 = a 8 0) (e3 : a' 8 1 = a 8 1) (e4 : b' 10 = b 10) (e5 : b' 12 = b 12) (e7 : b' 15 0 = b 15 0) (ht : ∃ tl, TXR a' b' tl) : INV a' b' B' := by
  obtain ⟨h1, ⟨mm, h2⟩, h3, ⟨nq, kq, h4⟩, -⟩ := h
  exact ⟨by rw [e1 0 (by omega), e4]; exact h1, ⟨mm, by rw [e4]; exact h2.le hB⟩, fun k k1 k2 => (h3 k k1 k2).blk fun n _ => by rw [e1 k k2], ⟨nq, kq, h4.fr hB (fun k k1 k2 => e1 k k2) e2 e3 e5 e7⟩, ht⟩
theorem rg_33 (v : Int32) : (v < 33 ∨ 126 < v) ∨ (¬ v < 33 ∧ ¬ 126 < v ∧ ∃ c : Nat, 33 ≤ c ∧ c ≤ 126 ∧ v = nI c) := by
  by_cases h1 : v < 33
  · exact Or.inl (Or.inl h1)
  · rcases rg_hi (v := v) (n := 126) (hi := 126) rfl (by omega) with h | ⟨-, h2, j, hj, e⟩
    · refine Or.inl (Or.inr (h.resolve_left fun q => h1 ?_))
      rw [Int32.lt_iff_toInt_lt] at q ⊢
      have e0 : (0 : Int32).toInt = 0 := by decide
      have e1 : (33 : Int32).toInt = 33 := by decide
      rw [e0] at q
      rw [e1]
      omega
    · refine Or.inr ⟨h1, h2, j, ?_, hj, e⟩
      rcases Nat.lt_or_ge j 33 with q | q
      · exact absurd (by rw [e]; exact (nI_ltI (a := j) (b := 33) (by omega) (by omega)).mpr q) h1
      · exact q
theorem pr_append {l : Launch} {D : va_G} {cy : Nat → ClassId} {ad : Ads} (hI : IJ ad) (hfl : l.stackTraces = false) {x : Mem} {B : Nat} (h : INV x x B) (p0 : Int32) :
    PR l D cy ad x B yL_append cL_append 4 hh_append rmw_append [.ref (ad 8 9 0), .int p0, .ref (ad 16 19 0)] yX9_append cX9_append 2 rm_X9_append [.ref (ad 15 14 0), .int p0] := by
  have h' := h
  obtain ⟨-, -, -, -, tl, hT⟩ := h'
  rcases rg_33 p0 with h0 | ⟨m1, m2, c, c1, c2, ec⟩
  · exact pr_fail h (by decide) (w_append_1 hI x p0 (x_append_1 hI x hfl p0 h0)) (c_X9_append_1 hI x p0 (inM_l h0))
  · by_cases h6 : tl = 60
    · subst h6
      exact pr_fail h (by decide) (w_append_2 hI x p0 (x_append_2 hI x hfl p0 m1 m2 hT.2.1)) (c_X9_append_2 hI x p0 m1 m2 hT.2.2.1)
    · have t6 : tl < 60 := by have := hT.1; omega
      refine ⟨_, w_append hI x p0 (c_X8_append hI x p0 m1 m2 hT.2.1 t6), fun k y1 hk => ?_⟩
      obtain ⟨e1, v, z, ⟨hv, hz⟩, hy⟩ := hk
      have yz : ∀ k, k ≠ 16 → y1 k = z k := fun k k16 => by
        rw [hy]
        exact funext fun n => up_b _ _ _ k16
      have yx : ∀ k, k ≠ 8 → k ≠ 9 → k ≠ 16 → y1 k = x k := fun k k8 k9 k16 => by
        rw [yz k k16, hz]
        exact funext fun n => (up_b _ _ _ k8).trans (up_b _ _ _ k9)
      refine ⟨_, c_X9_append hI y1 p0 m1 m2 (by rw [yx 15 (by omega) (by omega) (by omega)]; exact hT.2.2.1) t6, fun b y2 hb => ?_⟩
      obtain ⟨hb1, hb2⟩ := hb
      have y2b : ∀ k, k ≠ 13 → k ≠ 15 → y2 k = y1 k := fun k k13 k15 => by
        rw [hb2]
        exact funext fun n => ((up_b _ _ _ k15).trans (up_b _ _ _ k13)).trans (up_b _ _ _ k15)
      have y2x : ∀ k, k ≠ 13 → k ≠ 15 → k ≠ 8 → k ≠ 9 → k ≠ 16 → y2 k = x k := fun k k13 k15 k8 k9 k16 => (y2b k k13 k15).trans (yx k k8 k9 k16)
      have y28 : y2 8 = z 8 := (y2b 8 (by omega) (by omega)).trans (yz 8 (by omega))
      have y29 : y2 9 = z 9 := (y2b 9 (by omega) (by omega)).trans (yz 9 (by omega))
      refine ⟨?_, fun _ => ?_, h.txt (by omega) (fun k hk => y2x k (by omega) (by omega) (by omega) (by omega) (by omega)) ?_ ?_ (y2x 10 (by omega) (by omega) (by omega) (by omega) (by omega)) (y2x 12 (by omega) (by omega) (by omega) (by omega) (by omega)) ?_ ⟨tl + 1, by omega, ?_, ?_, fun i hi => ?_⟩⟩
      · rw [hb2, up_n _ _ (by omega), up_b _ _ _ (by omega), e1]
        exact up_s _ _ _ _
      · rw [hb2, up_b _ _ _ (by omega), up_b _ _ _ (by omega), show T0 y1 16 0 = y1 16 0 from up_b _ _ _ (by omega), hy, up_s, hv, hb1]
      · rw [y28, hz, up_n _ _ (by omega), up_b _ _ _ (by omega)]
      · rw [y28, hz, up_n _ _ (by omega), up_b _ _ _ (by omega)]
      · rw [hb2, up_n _ _ (by omega), up_b _ _ _ (by omega), show T0 y1 15 0 = y1 15 0 from up_n _ _ (by omega), yx 15 (by omega) (by omega) (by omega)]
      · rw [y28, hz]
        exact up_s _ _ _ _
      · rw [hb2]
        exact up_s _ _ _ _
      · have z9 : z 9 i = up x 9 tl p0 9 i := by
          rw [hz]
          exact up_b _ _ _ (by omega)
        have m13 : y2 13 i = up (T0 y1) 13 tl p0 13 i := by
          rw [hb2]
          exact up_b _ _ _ (by omega)
        rw [y29, z9, m13]
        by_cases hit : i = tl
        · rw [hit, up_s, up_s]
          exact ⟨rfl, c, c1, c2, ec⟩
        · rw [up_n _ _ hit, up_n _ _ hit, show T0 y1 13 i = y1 13 i from up_b _ _ _ (by omega), yx 13 (by omega) (by omega) (by omega)]
          exact hT.2.2.2 i (by omega)
theorem pr_undo {l : Launch} {D : va_G} {cy : Nat → ClassId} {ad : Ads} (hI : IJ ad) (hfl : l.stackTraces = false) {x : Mem} {B : Nat} (h : INV x x B) (hB : 3 * B < 2 ^ 20) :
    PR l D cy ad x B yL_undo cL_undo 3 hh_undo rmw_undo [.ref (ad 8 9 0), .ref (ad 16 19 0)] yX9_undo cX9_undo 1 rm_X9_undo [.ref (ad 15 14 0)] := by
  have hF := h.fl0
  have h' := h
  obtain ⟨-, -, hFs, ⟨nq, kk, hx⟩, -⟩ := h'
  match kk, hx with
  | 0, hx => exact pr_fail h (by decide) (w_undo_1 hI x (x_undo_1 hI x hfl hx.2.2.2.1)) (c_X9_undo_1 hI x hx.2.2.2.2.1)
  | kq + 1, hx =>
    have hk6 : kq + 1 ≤ 6 := hx.2.1
    refine ⟨_, w_undo hI x (c_X8_undo hI x hx.1 ((hx.2.2.1.nxt hB).lo (by omega)) (fun b hb => ?_) hx.2.2.2.1 (by omega) hk6), fun k y1 hk => ?_⟩
    · by_cases q : b = 0
      · rw [q]
        exact hF
      · exact hFs b (by omega) hb
    · obtain ⟨e1, v, z, ⟨hv, hz⟩, hy⟩ := hk
      have yz : ∀ k, k ≠ 16 → y1 k = z k := fun k k16 => by
        rw [hy]
        exact funext fun n => up_b _ _ _ k16
      have zx : ∀ k, k ≠ 0 → k ≠ 8 → z k = x k := fun k k0 k8 => by
        rw [hz]
        funext n
        unfold rsM
        rw [cpS_b k0, up_b _ _ _ k8, up_b _ _ _ k8]
      have yx : ∀ k, k ≠ 0 → k ≠ 8 → k ≠ 16 → y1 k = x k := fun k k0 k8 k16 => (yz k k16).trans (zx k k0 k8)
      refine ⟨_, c_X9_undo hI y1 (kq := kq) (by omega) (by rw [yx 15 (by omega) (by omega) (by omega)]; exact hx.2.2.2.2.1), fun b y2 hb => ?_⟩
      obtain ⟨hb1, hb2⟩ := hb
      have y2b : ∀ k, k ≠ 10 → k ≠ 15 → y2 k = y1 k := fun k k10 k15 => by
        rw [hb2]
        funext n
        rw [cpS_b k10, up_b _ _ _ k15]
        exact up_b _ _ _ k15
      have y2i : ∀ n, n ≠ 0 → n ≠ 2 → y2 15 n = x 15 n := fun n n0 n2 => by
        rw [hb2, cpS_b (by omega), up_n _ _ n0, show T0 y1 15 n = y1 15 n from up_n _ _ n2, yx 15 (by omega) (by omega) (by omega)]
      have y20 : y2 15 0 = nI kq := by
        rw [hb2, cpS_b (by omega)]
        exact up_s _ _ _ _
      have s1 : INV z y2 B := INV.undo h hx hz (fun n hn => ?_) ?_ ?_ y20 (y2i 1 (by omega) (by omega))
      · refine ⟨?_, fun _ => ?_, s1.fr (by omega) (fun k hk => (y2b k (by omega) (by omega)).trans (yz k (by omega))) ((y2b 8 (by omega) (by omega)).trans (yz 8 (by omega))) ((y2b 9 (by omega) (by omega)).trans (yz 9 (by omega))) rfl rfl rfl rfl rfl⟩
        · rw [hb2, cpS_b (by omega), up_n _ _ (by omega), e1]
          exact up_s _ _ _ _
        · rw [y2b 16 (by omega) (by omega), hy, up_s, hv, hb1]
          rfl
      · rw [hb2, cpS_in (by omega) (by omega), up_b _ _ _ (by omega), show T0 y1 12 = y1 12 from T0_b (by omega), yx 12 (by omega) (by omega) (by omega), Nat.sub_zero]
      · exact (y2b 12 (by omega) (by omega)).trans (yx 12 (by omega) (by omega) (by omega))
      · exact (y2b 13 (by omega) (by omega)).trans (yx 13 (by omega) (by omega) (by omega))
