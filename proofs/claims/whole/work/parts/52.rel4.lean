/-! ===== the saved states: the ring and the row ===== -/
/-- the calls that kept a state, less those undone: the ring's place is their rest by 6 -/
def NX (a : Mem) (B nq kq : Nat) : Prop := ∃ w : Nat, w ≤ B ∧ kq ≤ w ∧ w % 6 = nq ∧ a 8 0 = nI w
def HX (a b : Mem) (B nq kq : Nat) : Prop := nq < 6 ∧ kq ≤ 6 ∧ NX a B nq kq ∧ a 8 1 = nI kq ∧ b 15 0 = nI kq ∧
  ∀ i, i < kq → Rl (a ((nq + 6 - kq + i) % 6 + 1)) (fun n => b 12 (96 * i + n)) ∧ ∃ mm, GD (fun n => b 12 (96 * i + n)) mm B
theorem kp_in {x : Mem} {nq n : Nat} (h6 : nq < 6) (hn : n < 96) : kpM x nq (nq + 1) n = x 0 n := by
  unfold kpM
  rw [up_b _ _ _ (by omega), up_b _ _ _ (by omega), cpS_in (by omega) (by omega)]
  exact congrArg (x 0) (by omega)
theorem NX.keep {x : Mem} {B nq kq : Nat} (h : NX x B nq kq) : NX (kpM x nq) (B + 1) ((nq + 1) % 6) (if kq = 6 then 6 else kq + 1) := by
  obtain ⟨w, h1, h2, h3, h4⟩ := h
  refine ⟨w + 1, by omega, by split <;> omega, by omega, ?_⟩
  unfold kpM
  rw [up_n _ _ (by omega), up_s, h4]
  exact nI_1 w
theorem NX.nxt {x : Mem} {B nq kq : Nat} (h : NX x B nq kq) (hB : 3 * B < 2 ^ 20) : NXT x nq kq := by
  obtain ⟨w, h1, h2, h3, h4⟩ := h
  exact ⟨w, by omega, h2, h3, h4⟩
theorem NXT.lo {x : Mem} {nq a b : Nat} (h : NXT x nq a) (hb : b ≤ a) : NXT x nq b := by
  obtain ⟨w, h1, h2, h3, h4⟩ := h
  exact ⟨w, h1, by omega, h3, h4⟩
theorem NX.fr {x y : Mem} {B B' nq kq : Nat} (h : NX x B nq kq) (hB : B ≤ B') (e : y 8 0 = x 8 0) : NX y B' nq kq := by
  obtain ⟨w, h1, h2, h3, h4⟩ := h
  exact ⟨w, by omega, h2, h3, e.trans h4⟩
theorem kp_81 {x : Mem} {nq kq : Nat} (hk : kq ≤ 6) (h : x 8 1 = nI kq) : kpM x nq 8 1 = nI (if kq = 6 then 6 else kq + 1) := by
  unfold kpM
  rw [up_s, h, show nI kq + 1 = nI (kq + 1) from nI_1 kq]
  by_cases q : kq = 6
  · rw [q]
    rfl
  · rw [if_neg (fun w => absurd ((nGt (nn := 6) (n := 6) rfl (by omega) (by omega)).mp w) (by omega)), if_neg q]
theorem sv_15 {x : Mem} {kq : Nat} (hk : kq ≤ 6) : svM x kq 15 0 = nI (if kq = 6 then 6 else kq + 1) := by
  by_cases q : kq = 6
  · rw [q, svM_6, up_s]
    rfl
  · rw [svM_lt (by omega), up_s, if_neg q]
theorem sv_new {x : Mem} {kq n : Nat} (hk : kq < 6) (hn : n < 96) : svM x kq 12 (96 * kq + n) = x 10 n := by
  rw [svM_lt hk, up_b _ _ _ (by omega), cpS_in (by omega) (by omega)]
  exact congrArg (x 10) (by omega)
theorem sv_old {x : Mem} {kq i n : Nat} (hk : kq < 6) (hi : i < kq) (hn : n < 96) : svM x kq 12 (96 * i + n) = x 12 (96 * i + n) := by
  rw [svM_lt hk, up_b _ _ _ (by omega)]
  unfold cpS
  rw [if_neg (by omega)]
theorem sv_6n {x : Mem} {n : Nat} (hn : n < 96) : svM x 6 12 (96 * 5 + n) = x 10 n := by
  rw [svM_6, up_b _ _ _ (by omega), cpS_in (by omega) (by omega), up_b _ _ _ (by omega)]
  unfold shP
  rw [if_neg (by omega)]
  exact congrArg (x 10) (by omega)
theorem sv_6o {x : Mem} {i n : Nat} (hi : i < 5) (hn : n < 96) : svM x 6 12 (96 * i + n) = x 12 (96 * (i + 1) + n) := by
  rw [svM_6, up_b _ _ _ (by omega)]
  unfold cpS
  rw [if_neg (by omega), up_b _ _ _ (by omega)]
  unfold shP
  rw [if_pos (by omega)]
  exact congrArg (x 12) (by omega)
theorem HX.keep {a b : Mem} {B nq kq mm : Nat} (h : HX a b B nq kq) (hR : Rl (a 0) (b 10)) (hG : GD (b 10) mm B) : HX (kpM a nq) (svM b kq) (B + 1) ((nq + 1) % 6) (if kq = 6 then 6 else kq + 1) := by
  obtain ⟨h1, h2, h3, h4, h5, h6⟩ := h
  have hblk : ∀ r, r < 6 → r ≠ nq → ∀ n, kpM a nq (r + 1) n = a (r + 1) n := fun r hr hn n => kpM_9 (by omega) (by omega)
  refine ⟨by omega, by split <;> omega, h3.keep, kp_81 h2 h4, sv_15 h2, fun i hi => ?_⟩
  by_cases q : kq = 6
  · rw [if_pos q] at hi
    rw [if_pos q]
    subst q
    by_cases q5 : i = 5
    · rw [q5, show ((nq + 1) % 6 + 6 - 6 + 5) % 6 = nq by omega]
      exact ⟨hR.cg (fun n hn => kp_in h1 hn) (fun n hn => sv_6n hn), mm, (hG.le (Nat.le_succ B)).cg fun n hn => sv_6n hn⟩
    · obtain ⟨a1, m, a2⟩ := h6 (i + 1) (by omega)
      rw [show (nq + 6 - 6 + (i + 1)) % 6 = ((nq + 1) % 6 + 6 - 6 + i) % 6 by omega] at a1
      exact ⟨a1.cg (fun n hn => hblk _ (by omega) (by omega) n) (fun n hn => sv_6o (by omega) hn), m, (a2.le (Nat.le_succ B)).cg fun n hn => sv_6o (by omega) hn⟩
  · rw [if_neg q] at hi
    rw [if_neg q]
    by_cases qk : i = kq
    · rw [qk, show ((nq + 1) % 6 + 6 - (kq + 1) + kq) % 6 = nq by omega]
      exact ⟨hR.cg (fun n hn => kp_in h1 hn) (fun n hn => sv_new (by omega) hn), mm, (hG.le (Nat.le_succ B)).cg fun n hn => sv_new (by omega) hn⟩
    · obtain ⟨a1, m, a2⟩ := h6 i (by omega)
      rw [show (nq + 6 - kq + i) % 6 = ((nq + 1) % 6 + 6 - (kq + 1) + i) % 6 by omega] at a1
      exact ⟨a1.cg (fun n hn => hblk _ (by omega) (by omega) n) (fun n hn => sv_old (by omega) (by omega) hn), m, (a2.le (Nat.le_succ B)).cg fun n hn => sv_old (by omega) (by omega) hn⟩
theorem HX.fr {a b a' b' : Mem} {B B' nq kq : Nat} (h : HX a b B nq kq) (hB : B ≤ B') (e1 : ∀ k, 1 ≤ k → k < 7 → a' k = a k) (e2 : a' 8 0 = a 8 0) (e3 : a' 8 1 = a 8 1) (e4 : b' 12 = b 12) (e5 : b' 15 0 = b 15 0) : HX a' b' B' nq kq := by
  obtain ⟨h1, h2, h3, h4, h5, h6⟩ := h
  refine ⟨h1, h2, h3.fr hB e2, e3.trans h4, e5.trans h5, fun i hi => ?_⟩
  obtain ⟨a1, m, a2⟩ := h6 i hi
  rw [e1 _ (by omega) (by omega), e4]
  exact ⟨a1, m, a2.le hB⟩
def INV (a b : Mem) (B : Nat) : Prop := Rl (a 0) (b 10) ∧ (∃ mm, GD (b 10) mm B) ∧ (∀ k, 1 ≤ k → k < 7 → FLG a k) ∧ (∃ nq kq, HX a b B nq kq) ∧ ∃ tl, TXR a b tl
theorem TXR.fr {a b a' b' : Mem} {tl : Nat} (h : TXR a b tl) (e1 : a' 8 2 = a 8 2) (e2 : a' 9 = a 9) (e3 : b' 13 = b 13) (e4 : b' 15 1 = b 15 1) : TXR a' b' tl := by
  obtain ⟨h1, h2, h3, h4⟩ := h
  exact ⟨h1, e1.trans h2, e4.trans h3, by rw [e2, e3]; exact h4⟩
theorem FLG.blk {x y : Mem} {k k' : Nat} (h : FLG x k) (e : ∀ n, n < 96 → y k' n = x k n) : FLG y k' := fun d hd => by
  rw [e _ (by omega)]
  exact ⟨(h d hd).1, fun s hs => by rw [e _ (by omega)]; exact (h d hd).2 s hs⟩
theorem INV.fr {a b a' b' : Mem} {B B' : Nat} (h : INV a b B) (hB : B ≤ B') (e1 : ∀ k, k < 7 → a' k = a k) (e2 : a' 8 = a 8) (e3 : a' 9 = a 9) (e4 : b' 10 = b 10) (e5 : b' 12 = b 12) (e6 : b' 13 = b 13) (e7 : b' 15 0 = b 15 0) (e8 : b' 15 1 = b 15 1) : INV a' b' B' := by
  obtain ⟨h1, ⟨mm, h2⟩, h3, ⟨nq, kq, h4⟩, tl, h5⟩ := h
  refine ⟨by rw [e1 0 (by omega), e4]; exact h1, ⟨mm, by rw [e4]; exact h2.le hB⟩, fun k k1 k2 => (h3 k k1 k2).blk fun n _ => by rw [e1 k k2], ⟨nq, kq, h4.fr hB (fun k k1 k2 => e1 k k2) (by rw [e2]) (by rw [e2]) e5 e7⟩, tl, h5.fr (by rw [e2]) e3 e6 e8⟩
theorem INV.fl0 {a b : Mem} {B : Nat} (h : INV a b B) : FLG a 0 := by
  obtain ⟨h1, ⟨mm, h2⟩, -⟩ := h
  exact flg_rl h1 h2.iv.1 h2.df
theorem INV.step {a b a' b' : Mem} {B B' nq kq : Nat} (h : INV a b B) (hx : HX a b B nq kq) (hB : B + 1 ≤ B') (ha : ∀ k, k ≠ 0 → a' k = kpM a nq k) (e5 : b' 12 = svM b kq 12) (e6 : b' 13 = b 13) (e7 : b' 15 0 = svM b kq 15 0) (e8 : b' 15 1 = b 15 1) (hR : Rl (a' 0) (b' 10)) (hG : ∃ mm', GD (b' 10) mm' B') : INV a' b' B' := by
  have hf0 := h.fl0
  obtain ⟨h1, ⟨mm, h2⟩, h3, -, tl, h5⟩ := h
  have h6 := hx.1
  refine ⟨hR, hG, fun k k1 k2 => ?_, ⟨_, _, (hx.keep h1 h2).fr hB (fun k k1 k2 => ha k (by omega)) (by rw [ha 8 (by omega)]) (by rw [ha 8 (by omega)]) e5 e7⟩, tl, h5.fr (by rw [ha 8 (by omega)]; exact kpM_82 h6) (by rw [ha 9 (by omega)]; exact funext fun n => kpM_9 (by omega) (by omega)) e6 e8⟩
  by_cases q : k = nq + 1
  · rw [q]
    exact hf0.blk fun n hn => by rw [ha _ (by omega)]; exact kp_in h6 hn
  · exact (h3 k k1 k2).blk fun n hn => by rw [ha _ (by omega)]; exact kpM_9 q (by omega)
theorem INV.undo {a b a' b' : Mem} {B nq kq : Nat} (h : INV a b B) (hx : HX a b B nq (kq + 1)) (ha : a' = rsM a nq) (e4 : ∀ n, n < 96 → b' 10 n = b 12 (96 * kq + n)) (e5 : b' 12 = b 12) (e6 : b' 13 = b 13) (e7 : b' 15 0 = nI kq) (e8 : b' 15 1 = b 15 1) : INV a' b' B := by
  obtain ⟨-, -, h3, -, tl, h5⟩ := h
  obtain ⟨x1, x2, x3, x4, x5, x6⟩ := hx
  have hb : ∀ k, k ≠ 0 → k ≠ 8 → a' k = a k := fun k k0 k8 => by
    rw [ha]
    funext n
    unfold rsM
    rw [cpS_b k0, up_b _ _ _ k8, up_b _ _ _ k8]
  have h0 : ∀ n, n < 96 → a' 0 n = a ((nq + 5) % 6 + 1) n := fun n hn => by
    rw [ha]
    unfold rsM
    rw [cpS_in (by omega) (by omega), up_b _ _ _ (by omega), up_b _ _ _ (by omega)]
    exact congrArg (a _) (by omega)
  have h80 : NX a' B ((nq + 5) % 6) kq := by
    obtain ⟨w, w1, w2, w3, w4⟩ := x3
    refine ⟨w - 1, by omega, by omega, by omega, ?_⟩
    rw [ha]
    unfold rsM
    rw [cpS_b (by omega), up_n _ _ (by omega), up_s, w4]
    exact pk_sub (a := w) (b := 1) (by omega)
  have h81 : a' 8 1 = nI kq := by
    rw [ha]
    unfold rsM
    rw [cpS_b (by omega), up_s, x4, ← Nat.add_sub_cancel (n := kq) (m := 1), ← dec_n (i := kq + 1) (by omega), Int32.sub_eq_add_neg, Nat.add_sub_cancel]
    rfl
  have h82 : a' 8 2 = a 8 2 := by
    rw [ha]
    unfold rsM
    rw [cpS_b (by omega), up_n _ _ (by omega), up_n _ _ (by omega)]
  obtain ⟨a1, m, a2⟩ := x6 kq (by omega)
  rw [show (nq + 6 - (kq + 1) + kq) % 6 = (nq + 5) % 6 by omega] at a1
  refine ⟨a1.cg h0 e4, ⟨m, a2.cg e4⟩, fun k k1 k2 => by rw [show FLG a' k = FLG a k by unfold FLG; rw [hb k (by omega) (by omega)]]; exact h3 k k1 k2, ⟨(nq + 5) % 6, kq, by omega, by omega, h80, h81, e7, fun i hi => ?_⟩, tl, h5.fr h82 (hb 9 (by omega) (by omega)) e6 e8⟩
  obtain ⟨c1, m', c2⟩ := x6 i (by omega)
  rw [hb _ (by omega) (by omega), e5, show ((nq + 5) % 6 + 6 - kq + i) % 6 = (nq + 6 - (kq + 1) + i) % 6 by omega]
  exact ⟨c1, m', c2⟩
