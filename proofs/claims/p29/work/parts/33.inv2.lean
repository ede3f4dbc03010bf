/-! ===== what always holds of the memory ===== -/
theorem nEq {c n : Nat} {nn : Int32} (hn : nn = nI n) (hc : c < 2 ^ 20) (h2 : n < 2 ^ 20) : nI c = nn ↔ c = n := by rw [hn]; exact nI_eq (by omega) (by omega)
theorem nLt {c n : Nat} {nn : Int32} (hn : nn = nI n) (hc : c < 2 ^ 20) (h2 : n < 2 ^ 20) : nI c < nn ↔ c < n := by rw [hn]; exact nI_ltI (by omega) (by omega)
theorem nGt {c n : Nat} {nn : Int32} (hn : nn = nI n) (hc : c < 2 ^ 20) (h2 : n < 2 ^ 20) : nn < nI c ↔ n < c := by rw [hn]; exact nI_ltI (by omega) (by omega)
theorem nGe {c n : Nat} {nn : Int32} (hn : nn = nI n) (hc : c < 2 ^ 20) (h2 : n < 2 ^ 20) : nn ≤ nI c ↔ n ≤ c := by rw [hn]; exact nI_leI (by omega) (by omega)
def NX (a : Mem) (B nq kq : Nat) : Prop := ∃ w : Nat, w ≤ B ∧ kq ≤ w ∧ w % 6 = nq ∧ a 8 0 = nI w
theorem kp_in {x : Mem} {nq n : Nat} (h6 : nq < 6) (hn : n < 96) : kpM x nq (nq + 1) n = x 0 n := by
  unfold kpM
  rw [up_b _ _ _ (by omega), up_b _ _ _ (by omega), cpS_in (by omega) (by omega)]
  exact congrArg (x 0) (by omega)
theorem NX.keep {x : Mem} {B nq kq : Nat} (h : NX x B nq kq) : NX (kpM x nq) (B + 1) ((nq + 1) % 6) (if kq = 6 then 6 else kq + 1) := by
  obtain ⟨w, h1, h2, h3, h4⟩ := h
  refine ⟨w + 1, by omega, by split <;> omega, by omega, ?_⟩
  unfold kpM
  rw [up_n _ _ (by omega), up_s, h4]
  exact nI_1 w
theorem NX.nxt {x : Mem} {B nq kq : Nat} (h : NX x B nq kq) (hB : 3 * B < 2 ^ 20) : NXT x nq kq := by
  obtain ⟨w, h1, h2, h3, h4⟩ := h
  exact ⟨w, by omega, h2, h3, h4⟩
theorem NXT.lo {x : Mem} {nq a b : Nat} (h : NXT x nq a) (hb : b ≤ a) : NXT x nq b := by
  obtain ⟨w, h1, h2, h3, h4⟩ := h
  exact ⟨w, h1, by omega, h3, h4⟩
theorem NX.fr {x y : Mem} {B B' nq kq : Nat} (h : NX x B nq kq) (hB : B ≤ B') (e : y 8 0 = x 8 0) : NX y B' nq kq := by
  obtain ⟨w, h1, h2, h3, h4⟩ := h
  exact ⟨w, by omega, h2, h3, e.trans h4⟩
theorem kp_81 {x : Mem} {nq kq : Nat} (hk : kq ≤ 6) (h : x 8 1 = nI kq) : kpM x nq 8 1 = nI (if kq = 6 then 6 else kq + 1) := by
  unfold kpM
  rw [up_s, h, show nI kq + 1 = nI (kq + 1) from nI_1 kq]
  by_cases q : kq = 6
  · rw [q]
    rfl
  · rw [if_neg (fun w => absurd ((nGt (nn := 6) (n := 6) rfl (by omega) (by omega)).mp w) (by omega)), if_neg q]
theorem kp_b0 {x : Mem} {nq : Nat} : kpM x nq 0 = x 0 := funext fun n => kpM_0
def I29 (x : Mem) (B : Nat) : Prop := (∃ mm, CV (x 0) mm B) ∧ (∀ k, 1 ≤ k → k < 7 → ∃ mm, CV (x k) mm B) ∧ ∃ nq kq, nq < 6 ∧ kq ≤ 6 ∧ NX x B nq kq ∧ x 8 1 = nI kq
theorem I29.le {x : Mem} {B B' : Nat} (h : I29 x B) (hB : B ≤ B') : I29 x B' := by
  obtain ⟨⟨mm, h1⟩, h2, nq, kq, h3, h4, h5, h6⟩ := h
  refine ⟨⟨mm, h1.le hB⟩, fun k k1 k2 => ?_, nq, kq, h3, h4, h5.fr hB rfl, h6⟩
  obtain ⟨m, hm⟩ := h2 k k1 k2
  exact ⟨m, hm.le hB⟩
theorem I29.e7 {x y : Mem} {B : Nat} (h : I29 x B) (e : E7 x y) : I29 y B := by
  obtain ⟨⟨mm, h1⟩, h2, nq, kq, h3, h4, h5, h6⟩ := h
  refine ⟨⟨mm, by rw [e 0 (by omega)]; exact h1⟩, fun k k1 k2 => ?_, nq, kq, h3, h4, h5.fr (Nat.le_refl _) (by rw [e 8 (by omega)]), by rw [e 8 (by omega)]; exact h6⟩
  rw [e k (by omega)]
  exact h2 k k1 k2
theorem I29.flg {x : Mem} {B : Nat} (h : I29 x B) : ∀ b, b < 7 → FLG x b := fun b hb => by
  obtain ⟨⟨mm, h1⟩, h2, -⟩ := h
  by_cases q : b = 0
  · rw [q]
    exact h1.flg
  · obtain ⟨m, hm⟩ := h2 b (by omega) hb
    exact hm.flg
theorem I29.step {x y : Mem} {B B' nq kq : Nat} (h : I29 x B) (h6 : nq < 6) (hk : kq ≤ 6) (hn : NX x B nq kq) (h8 : x 8 1 = nI kq) (hB : B + 1 ≤ B') (hy : ∀ k, k ≠ 0 → y k = kpM x nq k) (hc : ∃ mm, CV (y 0) mm B') : I29 y B' := by
  obtain ⟨⟨mm, h1⟩, h2, -⟩ := h
  refine ⟨hc, fun k k1 k2 => ?_, (nq + 1) % 6, if kq = 6 then 6 else kq + 1, by omega, by split <;> omega, hn.keep.fr hB (by rw [hy 8 (by omega)]), ?_⟩
  · rw [hy k (by omega)]
    by_cases q : k = nq + 1
    · rw [q]
      exact ⟨mm, (h1.le (by omega)).cg fun n hn => kp_in h6 hn⟩
    · obtain ⟨m, hm⟩ := h2 k k1 k2
      exact ⟨m, (hm.le (by omega)).cg fun n _ => kpM_9 q (by omega)⟩
  · rw [hy 8 (by omega)]
    exact kp_81 hk h8
theorem I29.undo {x y : Mem} {B nq kq : Nat} (h : I29 x B) (h6 : nq < 6) (hk : kq + 1 ≤ 6) (hn : NX x B nq (kq + 1)) (h8 : x 8 1 = nI (kq + 1)) (hy : y = rsM x nq) : I29 y B := by
  obtain ⟨-, h2, -⟩ := h
  have hb : ∀ k, k ≠ 0 → k ≠ 8 → y k = x k := fun k k0 k8 => by
    rw [hy]
    funext n
    unfold rsM
    rw [cpS_b k0, up_b _ _ _ k8, up_b _ _ _ k8]
  have h0 : ∀ n, n < 96 → y 0 n = x ((nq + 5) % 6 + 1) n := fun n hn => by
    rw [hy]
    unfold rsM
    rw [cpS_in (by omega) (by omega), up_b _ _ _ (by omega), up_b _ _ _ (by omega)]
    exact congrArg (x _) (by omega)
  have h80 : NX y B ((nq + 5) % 6) kq := by
    obtain ⟨w, w1, w2, w3, w4⟩ := hn
    refine ⟨w - 1, by omega, by omega, by omega, ?_⟩
    rw [hy]
    unfold rsM
    rw [cpS_b (by omega), up_n _ _ (by omega), up_s, w4]
    exact pk_sub (a := w) (b := 1) (by omega)
  have h81 : y 8 1 = nI kq := by
    rw [hy]
    unfold rsM
    rw [cpS_b (by omega), up_s, h8]
    exact pk_sub (a := kq + 1) (b := 1) (by omega)
  obtain ⟨m, hm⟩ := h2 ((nq + 5) % 6 + 1) (by omega) (by omega)
  refine ⟨⟨m, hm.cg h0⟩, fun k k1 k2 => ?_, (nq + 5) % 6, kq, by omega, by omega, h80, h81⟩
  rw [hb k (by omega) (by omega)]
  exact h2 k k1 k2
theorem k_cv {x : Mem} {nq mm B : Nat} (h : CV (x 0) mm B) : CV (kpM x nq 0) mm B := by rw [kp_b0]; exact h
/-! ===== what a turn's doing leaves ===== -/
def lo (a : Int32) (n : Nat) : Nat := (a &&& 2147483647).toNatClampNeg % n
theorem lo_lt {a : Int32} {n : Nat} (h : 0 < n) : lo a n < n := Nat.mod_lt _ h
def ACT (x : Mem) (mm nr q : Nat) (a b : Int32) (B : Nat) (r : Int32) (y : Mem) : Prop :=
  I29 y (B + 4) ∧ (r < 0 → y = x) ∧
  (11 ≤ q → q ≤ 16 → (x 0 (16 + 4 * lo a 4) ≤ 0 → r = -3) ∧ (¬ x 0 (16 + 4 * lo a 4) ≤ 0 → r = dueS x (nxtN x 0 (lo a 4)) (nI (lo b 8)) mm 3 ∧ y 0 (16 + 4 * lo a 4) = x 0 (16 + 4 * lo a 4) - 1 ∧ numA y 0 0 = nxtN x 0 (lo a 4))) ∧
  (q = 17 ∨ q = 18 → r = if lo a 8 < nr then dueS x (x 0 (6 + lo a 8)) (nI (lo b 8)) mm 3 else -1) ∧
  (q = 6 → y 0 (31 + 22 * lo b 3) = 0)
theorem ACT.pl {x y : Mem} {mm nr q B : Nat} {a b r : Int32} (hI : I29 y (B + 4)) (h0 : ¬ r < 0) (h1 : ¬ (11 ≤ q ∧ q ≤ 16)) (h2 : ¬ (q = 17 ∨ q = 18)) (h3 : q ≠ 6) : ACT x mm nr q a b B r y :=
  ⟨hI, fun z => absurd z h0, fun z1 z2 => absurd ⟨z1, z2⟩ h1, fun z => absurd z h2, fun z => absurd z h3⟩
theorem nn_nI {n : Nat} (h : n < 2 ^ 31) : ¬ nI n < 0 := fun q => absurd ((nI_ltI (a := n) (b := 0) h (by omega)).mp q) (by omega)
theorem b2_nn {v : Int32} : ¬ b2 v < 0 := by
  unfold b2
  split <;> decide
theorem ls0 (x : Mem) (k d s : Nat) : lookSlot x k d s 0 = nI (if x k (36 + 22 * d + 4 * s) = 0 then 0 else 1) := by
  unfold lookSlot
  rw [if_pos rfl]
  split <;> rfl
theorem lrn_n (x : Mem) (d : Nat) : ∃ n : Nat, n ≤ 4 ∧ lrnD x 0 d = nI n ∧ ((∃ s, s < 4 ∧ x 0 (36 + 22 * d + 4 * s) ≠ 0) → 0 < n) := by
  have e : lrnD x 0 d = nI (0 + (if x 0 (36 + 22 * d + 4 * 0) = 0 then 0 else 1) + (if x 0 (36 + 22 * d + 4 * 1) = 0 then 0 else 1) + (if x 0 (36 + 22 * d + 4 * 2) = 0 then 0 else 1) + (if x 0 (36 + 22 * d + 4 * 3) = 0 then 0 else 1)) := by
    unfold lrnD
    rw [ls0, ls0, ls0, ls0, show (0 : Int32) = nI 0 from rfl, nI_add, nI_add, nI_add, nI_add]
  have b : ∀ v : Int32, (if v = 0 then 0 else 1) ≤ 1 := fun v => by split <;> omega
  have b0 := b (x 0 (36 + 22 * d + 4 * 0))
  have b1 := b (x 0 (36 + 22 * d + 4 * 1))
  have b2 := b (x 0 (36 + 22 * d + 4 * 2))
  have b3 := b (x 0 (36 + 22 * d + 4 * 3))
  refine ⟨_, by omega, e, fun hs => ?_⟩
  obtain ⟨s, hs4, hne⟩ := hs
  rcases (show s = 0 ∨ s = 1 ∨ s = 2 ∨ s = 3 by omega) with rfl | rfl | rfl | rfl <;> rw [if_neg hne] <;> omega
theorem dor3 {x : Mem} {nq : Nat} {y : Mem} {d s v : Nat} (hy : y = lrnS (kpM x nq) 0 d s 0 v) : ∀ k, k ≠ 0 → y k = kpM x nq k := fun k hk => by
  rw [hy]
  funext n
  unfold lrnS
  rw [up_b _ _ _ hk, up_b _ _ _ hk, up_b _ _ _ hk, up_b _ _ _ hk]
section ACTS
variable {x y : Mem} {mm nr q B nq kq : Nat} {a b r : Int32}
theorem a_learn {d s j : Nat} (h : I29 x B) (hc : CV (x 0) mm B) (h6 : nq < 6) (hk : kq ≤ 6) (hn : NX x B nq kq) (h8 : x 8 1 = nI kq) (hd : d < 3) (hs : s < 4) (hj : j < 4) (hq : q < 4) (hp : r = lrnD (lrnS (kpM x nq) 0 d s 0 j) 0 d ∧ y = lrnS (kpM x nq) 0 d s 0 j) : ACT x mm nr q a b B r y := by
  obtain ⟨hr, hy⟩ := hp
  refine ACT.pl (h.step h6 hk hn h8 (by omega) (dor3 hy) ⟨mm, ?_⟩) ?_ (by omega) (by omega) (by omega)
  · rw [hy]
    exact ((k_cv hc).lrn hd hs hj).le (by omega)
  · obtain ⟨n, h1, h2, -⟩ := lrn_n (lrnS (kpM x nq) 0 d s 0 j) d
    rw [hr, h2]
    exact nn_nI (by omega)
theorem a_forget {d s : Nat} (h : I29 x B) (hc : CV (x 0) mm B) (h6 : nq < 6) (hk : kq ≤ 6) (hn : NX x B nq kq) (h8 : x 8 1 = nI kq) (hd : d < 3) (hs : s < 4) (hq : q = 4) (hp : r = b2 (x 0 (36 + 22 * d + 4 * s)) ∧ y = empS (kpM x nq) 0 d s) : ACT x mm nr q a b B r y := by
  obtain ⟨hr, hy⟩ := hp
  refine ACT.pl (h.step h6 hk hn h8 (by omega) (fun k hk => ?_) ⟨mm, ?_⟩) (by rw [hr]; exact b2_nn) (by omega) (by omega) (by omega)
  · rw [hy]
    funext n
    unfold empS
    rw [up_b _ _ _ hk, up_b _ _ _ hk, up_b _ _ _ hk, up_b _ _ _ hk]
  · rw [hy]
    exact ((k_cv hc).emp hd hs).le (by omega)
theorem a_shut {d : Nat} (h : I29 x B) (hc : CV (x 0) mm B) (h6 : nq < 6) (hk : kq ≤ 6) (hn : NX x B nq kq) (h8 : x 8 1 = nI kq) (hd : d < 3) (hq : q = 5) (hp : r = b2 (x 0 (30 + 22 * d)) ∧ y = up (kpM x nq) 0 (30 + 22 * d) 0) : ACT x mm nr q a b B r y := by
  obtain ⟨hr, hy⟩ := hp
  refine ACT.pl (h.step h6 hk hn h8 (by omega) (fun k hk => ?_) ⟨mm, ?_⟩) (by rw [hr]; exact b2_nn) (by omega) (by omega) (by omega)
  · rw [hy]
    exact funext fun n => up_b _ _ _ hk
  · rw [hy]
    exact ((k_cv hc).shut hd).le (by omega)
theorem a_unlock (h : I29 x B) (hc : CV (x 0) mm B) (h6 : nq < 6) (hk : kq ≤ 6) (hn : NX x B nq kq) (h8 : x 8 1 = nI kq) (hB : B < 2 ^ 30) (hq : q = 6) (hp : r = x 0 (31 + 22 * lo b 3) ∧ y = up (kpM x nq) 0 (31 + 22 * lo b 3) 0) : ACT x mm nr q a b B r y := by
  obtain ⟨hr, hy⟩ := hp
  have hd : lo b 3 < 3 := lo_lt (by omega)
  refine ⟨h.step h6 hk hn h8 (by omega) (fun k hk => ?_) ⟨mm, ?_⟩, fun z => absurd z ?_, by omega, by omega, fun _ => by rw [hy]; exact up_s _ _ _ _⟩
  · rw [hy]
    exact funext fun n => up_b _ _ _ hk
  · rw [hy]
    exact ((k_cv hc).unl hd).le (by omega)
  · obtain ⟨w, h1, h2⟩ := hc.1.2.2.2.2.2.1 _ hd
    rw [hr, h2]
    exact nn_nI (by omega)
theorem a_make {j u v : Nat} (h : I29 x B) (hc : CV (x 0) mm B) (h6 : nq < 6) (hk : kq ≤ 6) (hn : NX x B nq kq) (h8 : x 8 1 = nI kq) (hj : j < 4) (hu : u < 10000) (hv : v < 10000) (hq : q = 7) (hp : r = x 0 (15 + 4 * j) ∧ y = up (up (kpM x nq) 0 (14 + 4 * j) (nI u)) 0 (15 + 4 * j) (nI v)) : ACT x mm nr q a b B r y := by
  obtain ⟨hr, hy⟩ := hp
  refine ACT.pl (h.step h6 hk hn h8 (by omega) (fun k hk => ?_) ⟨mm, ?_⟩) ?_ (by omega) (by omega) (by omega)
  · rw [hy]
    funext n
    rw [up_b _ _ _ hk, up_b _ _ _ hk]
  · rw [hy]
    exact ((k_cv hc).mak hj hu hv).le (by omega)
  · obtain ⟨a', b', h1, h2, h3, h4⟩ := hc.1.2.2.1 j hj
    rw [hr, h4]
    exact nn_nI (by omega)
theorem a_battery {j u : Nat} (h : I29 x B) (hc : CV (x 0) mm B) (h6 : nq < 6) (hk : kq ≤ 6) (hn : NX x B nq kq) (h8 : x 8 1 = nI kq) (hj : j < 4) (hu : u ≤ 999) (hq : q = 8) (hp : r = x 0 (16 + 4 * j) ∧ y = up (kpM x nq) 0 (16 + 4 * j) (nI u)) : ACT x mm nr q a b B r y := by
  obtain ⟨hr, hy⟩ := hp
  refine ACT.pl (h.step h6 hk hn h8 (by omega) (fun k hk => ?_) ⟨mm, ?_⟩) ?_ (by omega) (by omega) (by omega)
  · rw [hy]
    exact funext fun n => up_b _ _ _ hk
  · rw [hy]
    exact ((k_cv hc).bat hj hu).le (by omega)
  · obtain ⟨nb, h1, h2⟩ := hc.1.2.2.2.2.1 j hj
    rw [hr, h2]
    exact nn_nI (by omega)
theorem val_nn {n : Nat} (hc : CV (x 0) mm B) (hn : n < 3) : ¬ valS x 0 (nI n) < 0 := by
  obtain ⟨s1, s2, ⟨p, s3, s4⟩, w, s5, s6⟩ := hc.1.2.2.2.2.2.2.2
  rcases (show n = 0 ∨ n = 1 ∨ n = 2 by omega) with rfl | rfl | rfl
  · rw [show valS x 0 (nI 0) = x 0 0 from rfl, s4]
    exact nn_nI (by omega)
  · rw [show valS x 0 (nI 1) = x 0 1 from rfl, s1]
    exact nn_nI (by omega)
  · rw [show valS x 0 (nI 2) = x 0 2 from rfl, s6]
    exact nn_nI (by omega)
theorem chg_n (z : Mem) {n : Nat} {v : Int32} (hn : n < 3) : chgS z 0 (nI n) v = up z 0 n v := by
  rcases (show n = 0 ∨ n = 1 ∨ n = 2 by omega) with rfl | rfl | rfl <;> rfl
theorem a_set {n u : Nat} (h : I29 x B) (hc : CV (x 0) mm B) (h6 : nq < 6) (hk : kq ≤ 6) (hn : NX x B nq kq) (h8 : x 8 1 = nI kq) (hu : (n = 0 ∧ u ≤ 64) ∨ (n = 1 ∧ u ≤ 500) ∨ (n = 2 ∧ u ≤ 20)) (hq : q = 9 ∨ q = 10) (hp : r = valS x 0 (nI n) ∧ y = chgS (kpM x nq) 0 (nI n) (nI u)) : ACT x mm nr q a b B r y := by
  obtain ⟨hr, hy⟩ := hp
  have hn3 : n < 3 := by omega
  rw [chg_n _ hn3] at hy
  refine ACT.pl (h.step h6 hk hn h8 (by omega) (fun k hk => ?_) ⟨if n = 1 then u else mm, ?_⟩) (by rw [hr]; exact val_nn hc hn3) (by omega) (by omega) (by omega)
  · rw [hy]
    exact funext fun n => up_b _ _ _ hk
  · rw [hy]
    refine ((k_cv hc).set ?_).le (by omega)
    rcases hu with ⟨rfl, hu⟩ | ⟨rfl, hu⟩ | ⟨rfl, hu⟩
    · exact Or.inl ⟨rfl, hu, if_neg (by omega)⟩
    · exact Or.inr (Or.inl ⟨rfl, hu, if_pos rfl⟩)
    · exact Or.inr (Or.inr ⟨rfl, hu, if_neg (by omega)⟩)
theorem due_nn {num msk : Int32} (z : Mem) (h : (sendS z 0 msk num mm 3).1 = r) : ¬ r < 0 := by
  obtain ⟨w, h1, h2⟩ := send_8 (x := z) (k := 0) (msk := msk) (num := num) (mm := mm)
  rw [← h, h2]
  exact nn_nI (by omega)
theorem a_press (h : I29 x B) (hc : CV (x 0) mm B) (h6 : nq < 6) (hk : kq ≤ 6) (hn : NX x B nq kq) (h8 : x 8 1 = nI kq) (hq : 11 ≤ q ∧ q ≤ 16) (hb : ¬ x 0 (16 + 4 * lo a 4) ≤ 0) (hp : r = (prsS (kpM x nq) 0 (lo a 4) (nI (lo b 8)) mm).1 ∧ y = (prsS (kpM x nq) 0 (lo a 4) (nI (lo b 8)) mm).2) : ACT x mm nr q a b B r y := by
  obtain ⟨hr, hy⟩ := hp
  have hj : lo a 4 < 4 := lo_lt (by omega)
  have hx0 : kpM x nq 0 = x 0 := kp_b0
  have hnx : nxtN (kpM x nq) 0 (lo a 4) = nxtN x 0 (lo a 4) := by
    unfold nxtN
    rw [hx0]
  have hr2 : r = dueS x (nxtN x 0 (lo a 4)) (nI (lo b 8)) mm 3 := by
    rw [hr]
    unfold prsS
    rw [hnx]
    refine snd_due ?_ ?_ (fun n n1 _ => ?_) 3 (by omega)
    · rw [rs_lo (by omega), hx0]
    · rw [rs_lo (by omega), hx0]
    · rw [rs_hi hj n1, hx0]
  refine ⟨h.step h6 hk hn h8 (by omega) (fun k hk => ?_) ⟨mm, ?_⟩, fun z => absurd z (due_nn _ hr.symm), fun _ _ => ⟨fun z => absurd z hb, fun _ => ⟨hr2, ?_, ?_⟩⟩, by omega, by omega⟩
  · rw [hy]
    exact funext fun n => prsS_b hk
  · rw [hy]
    exact ((k_cv hc).prs hj (by rw [hx0]; exact hb)).le (by omega)
  · rw [hy]
    unfold prsS
    rw [sendS_lo (by omega)]
    refine (rs_f (i := 2) hj (by omega)).trans ?_
    rw [if_neg (by omega), if_pos rfl, hx0]
  · obtain ⟨w, w1, w2⟩ : ∃ w : Nat, 0 < w ∧ (w ≤ 8 ∧ y 0 5 = nI w) := by
      obtain ⟨nr', h1, h2, -⟩ := hc.1.2.2.2.2.2.2.1
      refine ⟨if nr' + 1 ≤ 8 then nr' + 1 else 8, by split <;> omega, by split <;> omega, ?_⟩
      rw [hy]
      unfold prsS
      rw [sendS_lo (by omega)]
      unfold recF
      rw [up_s, sndF_lo (by omega), hx0, h2, nI_1]
      by_cases h9 : nr' + 1 ≤ 8
      · rw [if_pos h9]
        exact if_neg (fun q => absurd ((nI_ltI (a := 8) (b := nr' + 1) (by omega) (by omega)).mp q) (by omega))
      · rw [if_neg h9]
        exact if_pos ((nI_ltI (a := 8) (b := nr' + 1) (by omega) (by omega)).mpr (by omega))
    rw [show (0 : Int32) = nI 0 from rfl, num_n w1 w2.1 w2.2, hy]
    unfold prsS
    rw [sendS_lo (by omega)]
    unfold recF
    rw [up_n _ _ (by omega), up_s]
    exact hnx
theorem a_press0 (h : I29 x B) (hq : 11 ≤ q ∧ q ≤ 16) (hb : x 0 (16 + 4 * lo a 4) ≤ 0) (hp : r = -3 ∧ y = x) : ACT x mm nr q a b B r y := by
  obtain ⟨hr, hy⟩ := hp
  subst hy
  exact ⟨h.le (by omega), fun _ => rfl, fun _ _ => ⟨fun _ => hr, fun z => absurd hb z⟩, by omega, by omega⟩
theorem a_again (h : I29 x B) (hc : CV (x 0) mm B) (h6 : nq < 6) (hk : kq ≤ 6) (hn : NX x B nq kq) (h8 : x 8 1 = nI kq) (hr8 : nr ≤ 8) (hnr : x 0 5 = nI nr) (hq : q = 17 ∨ q = 18) (hi : lo a 8 < nr) (hp : r = (agnS (kpM x nq) (lo a 8) (nI (lo b 8)) mm).1 ∧ y = (agnS (kpM x nq) (lo a 8) (nI (lo b 8)) mm).2) : ACT x mm nr q a b B r y := by
  obtain ⟨hr, hy⟩ := hp
  have hx0 : kpM x nq 0 = x 0 := kp_b0
  have hr2 : r = dueS x (x 0 (6 + lo a 8)) (nI (lo b 8)) mm 3 := by
    rw [hr]
    unfold agnS
    have en : numA (up (kpM x nq) 0 3 (kpM x nq 0 3 + 1)) 0 (nI (lo a 8)) = x 0 (6 + lo a 8) := by
      rw [num_n hi hr8 (by rw [up_n _ _ (by omega), hx0]; exact hnr), up_n _ _ (by omega), hx0]
    rw [en]
    refine snd_due ?_ ?_ (fun n n1 _ => ?_) 3 (by omega)
    · rw [up_n _ _ (by omega), hx0]
    · rw [up_n _ _ (by omega), hx0]
    · rw [up_n _ _ (by omega), hx0]
  refine ⟨h.step h6 hk hn h8 (by omega) (fun k hk => ?_) ⟨mm, ?_⟩, fun z => absurd z (due_nn _ hr.symm), by omega, fun _ => by rw [if_pos hi]; exact hr2, by omega⟩
  · rw [hy]
    exact funext fun n => agnS_b hk
  · rw [hy]
    exact ((k_cv hc).agn).le (by omega)
theorem a_again0 (h : I29 x B) (hq : q = 17 ∨ q = 18) (hi : ¬ lo a 8 < nr) (hp : r = -1 ∧ y = x) : ACT x mm nr q a b B r y := by
  obtain ⟨hr, hy⟩ := hp
  subst hy
  exact ⟨h.le (by omega), fun _ => rfl, by omega, fun _ => by rw [if_neg hi]; exact hr, by omega⟩
theorem a_undo (h : I29 x B) (h6 : nq < 6) (hk : kq + 1 ≤ 6) (hn : NX x B nq (kq + 1)) (h8 : x 8 1 = nI (kq + 1)) (hq : q = 19) (hp : r = nI (kq + 1 - 1) ∧ y = rsM x nq) : ACT x mm nr q a b B r y := by
  obtain ⟨hr, hy⟩ := hp
  exact ACT.pl ((h.undo h6 hk hn h8 hy).le (by omega)) (by rw [hr]; exact nn_nI (by omega)) (by omega) (by omega) (by omega)
theorem a_undo0 (h : I29 x B) (hq : q = 19) (hp : r = -3 ∧ y = x) : ACT x mm nr q a b B r y := by
  obtain ⟨hr, hy⟩ := hp
  subst hy
  exact ⟨h.le (by omega), fun _ => rfl, by omega, by omega, by omega⟩
end ACTS
