/-! ===== a call on both sides: the state moves ===== -/
theorem sv_cg {x y : Mem} {kq : Nat} (hk : kq ≤ 6) (h10 : y 10 = x 10) (h12 : y 12 = x 12) : svM y kq 12 = svM x kq 12 := by
  have hs : ∀ i n, shP y i 12 n = shP x i 12 n := fun i n => by
    unfold shP
    rw [h12]
  have hs10 : ∀ i n, shP y i 10 n = shP x i 10 n := fun i n => by
    unfold shP
    rw [if_neg (by omega), if_neg (by omega), h10]
  funext n
  by_cases q : kq = 6
  · rw [q, svM_6, svM_6, up_b _ _ _ (by omega), up_b _ _ _ (by omega)]
    unfold cpS
    by_cases hc : 480 ≤ n ∧ n < 480 + 96
    · rw [if_pos ⟨rfl, hc⟩, if_pos ⟨rfl, hc⟩, up_b _ _ _ (by omega), up_b _ _ _ (by omega), hs10]
    · rw [if_neg (fun w => hc w.2), if_neg (fun w => hc w.2), up_b _ _ _ (by omega), up_b _ _ _ (by omega), hs]
  · rw [svM_lt (by omega), svM_lt (by omega), up_b _ _ _ (by omega), up_b _ _ _ (by omega)]
    unfold cpS
    rw [h10, h12]
theorem INV.pair {x z y1 y2 : Mem} {B B' nq kq : Nat} {v : Int32} (h : INV x x B) (hx : HX x x B nq kq) (hB : B + 1 ≤ B') (hz : ∀ k, k ≠ 0 → z k = kpM x nq k) (hy1 : y1 = up z 16 0 v) (ho : ∀ k, k < 10 → y2 k = y1 k) (e5 : y2 12 = svM (T0 y1) kq 12) (e6 : y2 13 = y1 13) (e7 : y2 15 0 = svM (T0 y1) kq 15 0) (e8 : y2 15 1 = y1 15 1) (hR : Rl (z 0) (y2 10)) (hG : ∃ mm', GD (y2 10) mm' B') : INV y2 y2 B' := by
  have hy : ∀ k, k ≠ 16 → y1 k = z k := fun k hk => by
    rw [hy1]
    exact funext fun n => up_b _ _ _ hk
  have hk : ∀ k, k ≠ 0 → k ≠ nq + 1 → k ≠ 8 → z k = x k := fun k k0 k1 k8 => (hz k k0).trans (funext fun n => kpM_9 k1 k8)
  have h6 := hx.1
  have hyx : ∀ k, 9 ≤ k → k ≠ 16 → y1 k = x k := fun k k0 k1 => (hy k k1).trans (hk k (by omega) (by omega) (by omega))
  have f10 : T0 y1 10 = x 10 := (T0_b (by omega)).trans (hyx 10 (by omega) (by omega))
  have f12 : T0 y1 12 = x 12 := (T0_b (by omega)).trans (hyx 12 (by omega) (by omega))
  have s1 : INV z y2 B' := INV.step h hx hB hz (e5.trans (sv_cg hx.2.1 f10 f12)) (e6.trans (hyx 13 (by omega) (by omega))) (e7.trans ((sv_15 hx.2.1).trans (sv_15 hx.2.1).symm)) (e8.trans (by rw [hyx 15 (by omega) (by omega)])) hR hG
  have hoz : ∀ k, k < 10 → y2 k = z k := fun k hk => (ho k hk).trans (hy k (by omega))
  exact s1.fr (Nat.le_refl _) (fun k hk => hoz k (by omega)) (hoz 8 (by omega)) (hoz 9 (by omega)) rfl rfl rfl rfl rfl
theorem sv_lo {x : Mem} {kq k : Nat} (hk : k < 10) : svM (T0 x) kq k = x k := by
  funext n
  rw [svM_14 (by omega) (by omega)]
  exact up_b _ _ _ (by omega)
theorem sv_13 {x : Mem} {kq : Nat} : svM (T0 x) kq 13 = x 13 := by
  funext n
  rw [svM_14 (by omega) (by omega)]
  exact up_b _ _ _ (by omega)
theorem sv_151 {x : Mem} {kq n : Nat} (h0 : n ≠ 0) (h2 : n ≠ 2) : svM (T0 x) kq 15 n = x 15 n := by
  rw [svM_14 (by omega) (by omega)]
  exact up_n _ _ h2
theorem sv_152 {x : Mem} {kq : Nat} : svM (T0 x) kq 15 2 = 0 := by
  rw [svM_14 (by omega) (by omega)]
  exact up_s _ _ _ _
theorem sv_16 {x : Mem} {kq : Nat} : svM (T0 x) kq 16 = x 16 := by
  funext n
  rw [svM_14 (by omega) (by omega)]
  exact up_b _ _ _ (by omega)
