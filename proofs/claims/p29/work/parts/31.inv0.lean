/-! ===== rows on blocks of the state ===== -/
theorem nI_nm1 {n : Nat} (h : n < 2 ^ 31) : ¬ nI n = -1 := fun q => by
  have h1 := nI_toInt h
  rw [q] at h1
  have h2 : (-1 : Int32).toInt = -1 := by decide
  omega
theorem irem10k {n : Nat} (h : n < 2 ^ 31) : nI n - nI n / 10000 * 10000 = nI (n % 10000) := pk_rem (d := 10000) h (by omega) (by omega)
theorem ctr_n {a t : Nat} (ha : a < 10000) (ht : t < 10000) : ctr (nI a) (nI t) = nI ((a + t) % 10000) := by
  unfold ctr
  rw [nI_add]
  exact irem10k (by omega)
theorem nx_n {a : Nat} (ha : a < 10000) : nx (nI a) = nI ((a + 1) % 10000) := by
  unfold nx
  have h : (9999 : Int32) ≤ nI a ↔ 9999 ≤ a := nI_leI (a := 9999) (b := a) (by omega) (by omega)
  by_cases h9 : 9999 ≤ a
  · have : a = 9999 := by omega
    rw [if_pos (h.mpr h9), this]
    rfl
  · rw [if_neg (fun q => h9 (h.mp q)), nI_1, Nat.mod_eq_of_lt (by omega)]
theorem mt_or {x : Mem} {k d mm : Nat} {num : Int32} : ∀ f s, s + f = 4 → mt x k d num mm f s = (4, 0) ∨ ∃ s' t, s' < 4 ∧ 1 ≤ t ∧ t ≤ mm ∧ mt x k d num mm f s = (s', t) ∧ x k (36 + 22 * d + 4 * s') ≠ 0
  | 0, _, _ => Or.inl rfl
  | f + 1, s, h => by
    unfold mt
    split
    · exact mt_or f (s + 1) (by omega)
    · rename_i h0
      refine Or.inr ⟨s, stpS x k d s num mm, by omega, by omega, stpS_le, rfl, fun q => h0 ?_⟩
      unfold stpS
      rw [if_pos q]
theorem mean_or (x : Mem) (k d mm : Nat) (num : Int32) : mean x k d num mm = (4, 0) ∨ ∃ s t, s < 4 ∧ 1 ≤ t ∧ t ≤ mm ∧ mean x k d num mm = (s, t) ∧ x k (36 + 22 * d + 4 * s) ≠ 0 := mt_or 4 0 rfl
def Sl (v : Nat → Int32) (d s : Nat) : Prop := v (36 + 22 * d + 4 * s) = 0 ∨ (v (36 + 22 * d + 4 * s) = 1 ∧ ∃ a b : Nat, a < 10000 ∧ b < 10000 ∧ v (37 + 22 * d + 4 * s) = nI a ∧ v (38 + 22 * d + 4 * s) = nI b ∧ (v (39 + 22 * d + 4 * s) = -1 ∨ ∃ c : Nat, c < 10000 ∧ v (39 + 22 * d + 4 * s) = nI c))
def RS (v : Nat → Int32) : Prop := ∀ d, d < 3 → ∀ s, s < 4 → Sl v d s
def RF (v : Nat → Int32) : Prop := ∀ j, j < 4 → ∃ a b : Nat, a < 10000 ∧ b < 10000 ∧ v (14 + 4 * j) = nI a ∧ v (15 + 4 * j) = nI b
theorem Sl.cg {u v : Nat → Int32} {d s : Nat} (h : Sl u d s) (e : ∀ i, i < 4 → v (36 + 22 * d + 4 * s + i) = u (36 + 22 * d + 4 * s + i)) : Sl v d s := by
  have e0 := e 0 (by omega)
  have e1 := e 1 (by omega)
  have e2 := e 2 (by omega)
  have e3 := e 3 (by omega)
  rw [show 36 + 22 * d + 4 * s + 1 = 37 + 22 * d + 4 * s by omega] at e1
  rw [show 36 + 22 * d + 4 * s + 2 = 38 + 22 * d + 4 * s by omega] at e2
  rw [show 36 + 22 * d + 4 * s + 3 = 39 + 22 * d + 4 * s by omega] at e3
  unfold Sl at h ⊢
  rw [e1, e2, e3, show v (36 + 22 * d + 4 * s) = u (36 + 22 * d + 4 * s) from e0]
  exact h
theorem hr_or (x : Mem) (k d mm : Nat) (num : Int32) :
    (¬ lockS (x k 2) (x k (31 + 22 * d)) = 0 ∧ hrR x k d k num mm = 3 ∧ hrM x k d k num mm = up x k (35 + 22 * d) (x k (35 + 22 * d) + 1)) ∨
    (lockS (x k 2) (x k (31 + 22 * d)) = 0 ∧ ((mean x k d num mm = (4, 0) ∧ hrR x k d k num mm = 2 ∧ hrM x k d k num mm = up (up x k (31 + 22 * d) (x k (31 + 22 * d) + 1)) k (34 + 22 * d) (x k (34 + 22 * d) + 1)) ∨
      ∃ s t, s < 4 ∧ 1 ≤ t ∧ t ≤ mm ∧ mean x k d num mm = (s, t) ∧ x k (36 + 22 * d + 4 * s) ≠ 0 ∧
        ((takS x k d s (nI t) (x k 0) ∧ hrR x k d k num mm = 0 ∧ hrM x k d k num mm = opnM (tak1 x k d s (nI t)) k d) ∨
         (¬ takS x k d s (nI t) (x k 0) ∧ hrR x k d k num mm = 1 ∧ hrM x k d k num mm = up (tak0 x k d s (nI t)) k (33 + 22 * d) (x k (33 + 22 * d) + 1))))) := by
  by_cases hL : lockS (x k 2) (x k (31 + 22 * d)) = 0
  · refine Or.inr ⟨hL, ?_⟩
    rcases mean_or x k d mm num with h | ⟨s, t, h1, h2, h3, h4, h5⟩
    · exact Or.inl ⟨h, hr_2 hL h⟩
    · refine Or.inr ⟨s, t, h1, h2, h3, h4, h5, ?_⟩
      by_cases hT : takS x k d s (nI t) (x k 0)
      · exact Or.inl ⟨hT, hr_0 hL h4 h1 hT⟩
      · exact Or.inr ⟨hT, hr_1 hL h4 h1 hT⟩
  · exact Or.inl ⟨hL, hr_3 hL⟩
theorem RS.up {x : Mem} {k p : Nat} {v : Int32} (h : RS (x k)) (hp : ∀ d s i, d < 3 → s < 4 → i < 4 → p ≠ 36 + 22 * d + 4 * s + i) : RS (up x k p v k) := fun d hd s hs =>
  (h d hd s hs).cg fun i hi => up_n _ _ (fun q => hp d s i hd hs hi q.symm)
theorem dp_ne {d d' s' i : Nat} (f : Nat) (hd : d < 3) (hd' : d' < 3) (hs : s' < 4) (hi : i < 4) (hf : f < 6) : 30 + f + 22 * d ≠ 36 + 22 * d' + 4 * s' + i := by
  rcases (show d = 0 ∨ d = 1 ∨ d = 2 by omega) with rfl | rfl | rfl <;> rcases (show d' = 0 ∨ d' = 1 ∨ d' = 2 by omega) with rfl | rfl | rfl <;> omega
theorem sl_ne {d d' s s' i : Nat} (f : Nat) (hd : d < 3) (hd' : d' < 3) (hs : s < 4) (hs' : s' < 4) (hi : i < 4) (hf : f < 4) (h : ¬ (d' = d ∧ s' = s)) : 36 + 22 * d' + 4 * s' + i ≠ 36 + f + 22 * d + 4 * s := by
  rcases (show d = 0 ∨ d = 1 ∨ d = 2 by omega) with rfl | rfl | rfl <;> rcases (show d' = 0 ∨ d' = 1 ∨ d' = 2 by omega) with rfl | rfl | rfl <;> omega
theorem RS.hr {x : Mem} {k d mm : Nat} {num : Int32} (h : RS (x k)) (hd : d < 3) (hm : mm ≤ 500) : RS (hrM x k d k num mm k) := by
  rcases hr_or x k d mm num with ⟨-, -, e⟩ | ⟨-, ⟨-, -, e⟩ | ⟨s, t, hs, h1, ht, -, hne, ⟨-, -, e⟩ | ⟨-, -, e⟩⟩⟩ <;> rw [e]
  · exact h.up (fun d' s' i h1 h2 h3 => dp_ne 5 hd h1 h2 h3 (by omega))
  · exact RS.up (h.up (fun d' s' i h1 h2 h3 => dp_ne 1 hd h1 h2 h3 (by omega))) (fun d' s' i h1 h2 h3 => dp_ne 4 hd h1 h2 h3 (by omega))
  · unfold opnM
    refine RS.up (RS.up (RS.up ?_ (fun d' s' i h1 h2 h3 => dp_ne 0 hd h1 h2 h3 (by omega))) (fun d' s' i h1 h2 h3 => dp_ne 2 hd h1 h2 h3 (by omega))) (fun d' s' i h1 h2 h3 => dp_ne 1 hd h1 h2 h3 (by omega))
    rcases h d hd s hs with h0 | ⟨h0, a, b, ha, hb, h7, h8, h9⟩
    · exact absurd h0 hne
    intro d' hd' s' hs'
    by_cases hq : d' = d ∧ s' = s
    · obtain ⟨rfl, rfl⟩ := hq
      refine Or.inr ⟨?_, a, (b + t) % 10000, ha, Nat.mod_lt _ (by omega), ?_, ?_, Or.inl ?_⟩ <;> unfold tak1
      · rw [up_n _ _ (by omega), up_n _ _ (by omega)]; exact h0
      · rw [up_n _ _ (by omega), up_n _ _ (by omega)]; exact h7
      · rw [up_n _ _ (by omega), up_s, h8, ctr_n hb (by omega)]
      · rw [up_s]
    · refine (h d' hd' s' hs').cg fun i hi => ?_
      unfold tak1
      rw [up_n _ _ (sl_ne 3 hd hd' hs hs' hi (by omega) hq), up_n _ _ (sl_ne 2 hd hd' hs hs' hi (by omega) hq)]
  · refine RS.up ?_ (fun d' s' i h1 h2 h3 => dp_ne 3 hd h1 h2 h3 (by omega))
    rcases h d hd s hs with h0 | ⟨h0, a, b, ha, hb, h7, h8, h9⟩
    · exact absurd h0 hne
    intro d' hd' s' hs'
    by_cases hq : d' = d ∧ s' = s
    · obtain ⟨rfl, rfl⟩ := hq
      refine Or.inr ⟨?_, a, b, ha, hb, ?_, ?_, Or.inr ⟨(b + t) % 10000, Nat.mod_lt _ (by omega), ?_⟩⟩ <;> unfold tak0
      · rw [up_n _ _ (by omega)]; exact h0
      · rw [up_n _ _ (by omega)]; exact h7
      · rw [up_n _ _ (by omega)]; exact h8
      · rw [up_s, h8, ctr_n hb (by omega)]
    · refine (h d' hd' s' hs').cg fun i hi => ?_
      unfold tak0
      rw [up_n _ _ (sl_ne 3 hd hd' hs hs' hi (by omega) hq)]
theorem RS.snd {x : Mem} {k mm : Nat} {msk num : Int32} (h : RS (x k)) (hm : mm ≤ 500) : ∀ d, d ≤ 3 → RS ((sendS x k msk num mm d).2 k)
  | 0, _ => h
  | d + 1, hd => by
    unfold sendS
    split
    · exact (RS.snd h hm d (by omega)).hr (by omega) hm
    · exact RS.snd h hm d (by omega)
theorem RF.up {x : Mem} {k p : Nat} {v : Int32} (h : RF (x k)) (hp : ∀ j, j < 4 → p ≠ 14 + 4 * j ∧ p ≠ 15 + 4 * j) : RF (up x k p v k) := fun j hj => by
  obtain ⟨a, b, ha, hb, h1, h2⟩ := h j hj
  exact ⟨a, b, ha, hb, (up_n _ _ (fun q => (hp j hj).1 q.symm)).trans h1, (up_n _ _ (fun q => (hp j hj).2 q.symm)).trans h2⟩
theorem RS.rec {x : Mem} {k : Nat} {v : Int32} (h : RS (x k)) : RS (recF x k v k) := fun d hd s hs => (h d hd s hs).cg fun i hi => by
  unfold recF shA
  rw [up_n _ _ (by omega), up_n _ _ (by omega), if_neg (by omega)]
theorem RS.sF {x : Mem} {k j : Nat} (h : RS (x k)) (hj : j < 4) : RS (sndF x k j k) := fun d hd s hs => (h d hd s hs).cg fun i hi => by
  unfold sndF
  rw [up_n _ _ (by omega), up_n _ _ (by omega), up_n _ _ (by omega)]
theorem dec_n {i : Nat} (h : 0 < i) : nI i + Int32.ofInt (-1) = nI (i - 1) := by
  obtain ⟨n, rfl⟩ : ∃ n, i = n + 1 := ⟨i - 1, by omega⟩
  exact pk_m1 n
theorem RF.prs {x : Mem} {k j mm : Nat} {msk : Int32} (h : RF (x k)) (hj : j < 4) : RF ((prsS x k j msk mm).2 k) := fun i hi => by
  obtain ⟨a, b, ha, hb, h1, h2⟩ := h i hi
  unfold prsS
  by_cases e : i = j
  · subst e
    refine ⟨a, (b + 1) % 10000, ha, Nat.mod_lt _ (by omega), ?_, ?_⟩
    · rw [sendS_lo (by omega)]
      unfold recF shA sndF
      rw [up_n _ _ (by omega), up_n _ _ (by omega), if_neg (by omega), up_n _ _ (by omega), up_n _ _ (by omega), up_n _ _ (by omega)]
      exact h1
    · rw [sendS_lo (by omega)]
      unfold recF shA sndF
      rw [up_n _ _ (by omega), up_n _ _ (by omega), if_neg (by omega), up_s, h2, nx_n hb]
  · refine ⟨a, b, ha, hb, ?_, ?_⟩
    · rw [sendS_lo (by omega)]
      unfold recF shA sndF
      rw [up_n _ _ (by omega), up_n _ _ (by omega), if_neg (by omega), up_n _ _ (by omega), up_n _ _ (by omega), up_n _ _ (by omega)]
      exact h1
    · rw [sendS_lo (by omega)]
      unfold recF shA sndF
      rw [up_n _ _ (by omega), up_n _ _ (by omega), if_neg (by omega), up_n _ _ (by omega), up_n _ _ (by omega), up_n _ _ (by omega)]
      exact h2
theorem RS.prs {x : Mem} {k j mm : Nat} {msk : Int32} (h : RS (x k)) (hj : j < 4) (hm : mm ≤ 500) : RS ((prsS x k j msk mm).2 k) := RS.snd ((h.sF hj).rec) hm 3 (by omega)
theorem RS.c96 {u v : Nat → Int32} (h : RS u) (e : ∀ n, n < 96 → v n = u n) : RS v := fun d hd s hs => (h d hd s hs).cg fun i hi => e _ (by omega)
theorem RF.c96 {u v : Nat → Int32} (h : RF u) (e : ∀ n, n < 96 → v n = u n) : RF v := fun j hj => by
  obtain ⟨a, b, ha, hb, h1, h2⟩ := h j hj
  exact ⟨a, b, ha, hb, (e _ (by omega)).trans h1, (e _ (by omega)).trans h2⟩
theorem hrM_o {x : Mem} {k d k2 n mm : Nat} {num : Int32} (hn : n < 30 + 22 * d ∨ 52 + 22 * d ≤ n) : hrM x k d k2 num mm k n = x k n := by
  by_cases hL : lockS (x k2 2) (x k (31 + 22 * d)) = 0
  · rcases mean_or x k d mm num with hM | ⟨s, t, hs, h1, ht, hM, hne⟩
    · rw [(hr_2 hL hM).2, up_n _ _ (by omega), up_n _ _ (by omega)]
    · by_cases hT : takS x k d s (nI t) (x k2 0)
      · rw [(hr_0 hL hM hs hT).2]
        unfold opnM tak1
        rw [up_n _ _ (by omega), up_n _ _ (by omega), up_n _ _ (by omega), up_n _ _ (by omega), up_n _ _ (by omega)]
      · rw [(hr_1 hL hM hs hT).2]
        unfold tak0
        rw [up_n _ _ (by omega), up_n _ _ (by omega)]
  · rw [(hr_3 hL).2, up_n _ _ (by omega)]
theorem num_n {x : Mem} {k ii nr : Nat} (hi : ii < nr) (h8 : nr ≤ 8) (hnr : x k 5 = nI nr) : numA x k (nI ii) = x k (6 + ii) := by
  unfold numA
  rw [hnr, if_neg (show ¬ nI ii < 0 from fun q => absurd ((nI_ltI (a := ii) (b := 0) (by omega) (by omega)).mp q) (by omega)), if_neg (fun q => absurd ((nI_leI (by omega) (by omega)).mp q) (by omega)), if_neg (show ¬ 8 ≤ nI ii from fun q => absurd ((nI_leI (a := 8) (b := ii) (by omega) (by omega)).mp q) (by omega)), nI_clamp (by omega)]
theorem num_o {x : Mem} {k ii nr : Nat} (hi : ¬ ii < nr) (h8 : nr ≤ 8) (hnr : x k 5 = nI nr) (h31 : ii < 2 ^ 31) : numA x k (nI ii) = -1 := by
  unfold numA
  rw [hnr, if_neg (show ¬ nI ii < 0 from fun q => absurd ((nI_ltI (a := ii) (b := 0) (by omega) (by omega)).mp q) (by omega)), if_pos ((nI_leI (by omega) (by omega)).mpr (by omega))]
def DF (v : Nat → Int32) : Prop := ∀ d, d < 3 → isFlag (v (30 + 22 * d))
theorem b2_f {v : Int32} (h : isFlag v) : b2 v = v := by
  rcases h with h | h <;> rw [h] <;> rfl
theorem rs_hi {x : Mem} {k j n : Nat} {num : Int32} (hj : j < 4) (hn : 30 ≤ n) : recF (sndF x k j) k num k n = x k n := by
  unfold recF sndF
  rw [up_n _ _ (by omega), up_n _ _ (by omega)]
  unfold shA
  rw [if_neg (by omega), up_n _ _ (by omega), up_n _ _ (by omega), up_n _ _ (by omega)]
theorem rs_lo {x : Mem} {k j n : Nat} {num : Int32} (h : n < 5) : recF (sndF x k j) k num k n = x k n := by
  unfold recF sndF
  rw [up_n _ _ (by omega), up_n _ _ (by omega)]
  unfold shA
  rw [if_neg (by omega), up_n _ _ (by omega), up_n _ _ (by omega), up_n _ _ (by omega)]
theorem rs_f {x : Mem} {k j i : Nat} {num : Int32} (hj : j < 4) (hi : i < 4) : recF (sndF x k j) k num k (14 + i + 4 * j) = if i = 1 then nx (x k (15 + 4 * j)) else if i = 2 then x k (16 + 4 * j) - 1 else if i = 3 then x k (17 + 4 * j) + 1 else x k (14 + 4 * j) := by
  unfold recF sndF
  rw [up_n _ _ (by omega), up_n _ _ (by omega)]
  unfold shA
  rw [if_neg (by omega)]
  rcases (show i = 0 ∨ i = 1 ∨ i = 2 ∨ i = 3 by omega) with e | e | e | e <;> subst e
  · rw [up_n _ _ (by omega), up_n _ _ (by omega), up_n _ _ (by omega)]
    rfl
  · exact up_s _ k (15 + 4 * j) _
  · rw [up_n _ _ (by omega), up_n _ _ (by omega)]
    exact up_s _ k (16 + 4 * j) _
  · rw [up_n _ _ (by omega)]
    exact up_s _ k (17 + 4 * j) _
def BT (v : Nat → Int32) : Prop := ∀ j, j < 4 → ∃ nb : Nat, nb ≤ 999 ∧ v (16 + 4 * j) = nI nb
theorem DF.hr {x : Mem} {k d mm : Nat} {num : Int32} (h : DF (x k)) (hd : d < 3) : DF (hrM x k d k num mm k) := fun d' hd' => by
  have ho : d' < d ∨ d' = d ∨ d < d' := by omega
  rcases hr_or x k d mm num with ⟨-, -, e⟩ | ⟨-, ⟨-, -, e⟩ | ⟨s, t, hs, h1, ht, -, hne, ⟨-, -, e⟩ | ⟨-, -, e⟩⟩⟩ <;> rw [e]
  · rw [up_n _ _ (by omega)]
    exact h d' hd'
  · rw [up_n _ _ (by omega), up_n _ _ (by omega)]
    exact h d' hd'
  · unfold opnM tak1
    rw [up_n _ _ (by omega), up_n _ _ (by omega)]
    rcases ho with q | q | q
    · rw [up_n _ _ (by omega), up_n _ _ (by omega), up_n _ _ (by omega)]
      exact h d' hd'
    · rw [q, up_s]
      exact Or.inr rfl
    · rw [up_n _ _ (by omega), up_n _ _ (by omega), up_n _ _ (by omega)]
      exact h d' hd'
  · unfold tak0
    rw [up_n _ _ (by omega), up_n _ _ (by omega)]
    exact h d' hd'
theorem DF.fr {u v : Nat → Int32} (h : DF u) (e : ∀ n, 30 ≤ n → n < 96 → v n = u n) : DF v := fun d hd => by
  rw [e _ (by omega) (by omega)]
  exact h d hd
theorem recF_b {x : Mem} {k b n : Nat} {v : Int32} (h : b ≠ k) : recF x k v b n = x b n := by
  unfold recF shA
  rw [up_b _ _ _ h, up_b _ _ _ h]
  simp [h]
theorem sndF_b {x : Mem} {k j b n : Nat} (h : b ≠ k) : sndF x k j b n = x b n := by
  unfold sndF
  rw [up_b _ _ _ h, up_b _ _ _ h, up_b _ _ _ h]
theorem sndF_lo {x : Mem} {k j n : Nat} (h : n < 14) : sndF x k j k n = x k n := by
  unfold sndF
  rw [up_n _ _ (by omega), up_n _ _ (by omega), up_n _ _ (by omega)]
theorem prsS_b {x : Mem} {k j b n : Nat} {msk : Int32} {mm : Nat} (h : b ≠ k) : (prsS x k j msk mm).2 b n = x b n := by
  unfold prsS
  rw [sendS_b h, recF_b h, sndF_b h]
theorem prsS_1 {x : Mem} {k j : Nat} {msk : Int32} {mm : Nat} : (prsS x k j msk mm).2 k 1 = x k 1 := by
  unfold prsS
  rw [sendS_lo (by omega), recF_1, sndF_1]
theorem agnS_b {x : Mem} {ii b n : Nat} {msk : Int32} {mm : Nat} (h : b ≠ 0) : (agnS x ii msk mm).2 b n = x b n := by
  show up _ 0 4 _ b n = _
  rw [up_b _ _ _ h, sendS_b h, up_b _ _ _ h]
theorem agnS_lo {x : Mem} {ii n : Nat} {msk : Int32} {mm : Nat} (h : n < 30) (h3 : n ≠ 3) (h4 : n ≠ 4) : (agnS x ii msk mm).2 0 n = x 0 n := by
  show up _ 0 4 _ 0 n = _
  rw [up_n _ _ h4, sendS_lo h, up_n _ _ h3]
def PT (z w0 : Mem) : Prop := (∀ n, n < 22 → z 7 (30 + n) = w0 7 (30 + n)) ∧ z 0 0 = w0 0 0 ∧ z 0 2 = w0 0 2
theorem PT.upq {z w0 : Mem} {i : Nat} {v v' : Int32} (h : PT z w0) (hv : v = v') : PT (up z 7 i v) (up w0 7 i v') := by
  subst hv
  refine ⟨fun n hn => ?_, ?_, ?_⟩
  · by_cases hi : 30 + n = i
    · rw [hi, up_s, up_s]
    · rw [up_n _ _ hi, up_n _ _ hi]; exact h.1 n hn
  · rw [up_b _ _ _ (by omega), up_b _ _ _ (by omega)]; exact h.2.1
  · rw [up_b _ _ _ (by omega), up_b _ _ _ (by omega)]; exact h.2.2
theorem PT.a {z w0 : Mem} (h : PT z w0) {n : Nat} (h1 : 30 ≤ n) (h2 : n < 52) : z 7 n = w0 7 n := by
  have := h.1 (n - 30) (by omega)
  rwa [show 30 + (n - 30) = n by omega] at this
theorem PT.hrq {z w0 : Mem} {num : Int32} {mm : Nat} (h : PT z w0) : hrR z 7 0 0 num mm = hrR w0 7 0 0 num mm :=
  E7.hr (fun n hn => by rw [show 30 + 22 * 0 + n = 30 + n by omega]; exact h.1 n hn) h.2.2 h.2.1
theorem PT.mnq {z w0 : Mem} {num : Int32} {mm : Nat} (h : PT z w0) : mean z 7 0 num mm = mean w0 7 0 num mm := by
  have st : ∀ s, s < 4 → stpS z 7 0 s num mm = stpS w0 7 0 s num mm := fun s hs => by
    unfold stpS
    rw [h.a (n := 36 + 22 * 0 + 4 * s) (by omega) (by omega), h.a (n := 37 + 22 * 0 + 4 * s) (by omega) (by omega), h.a (n := 38 + 22 * 0 + 4 * s) (by omega) (by omega)]
  unfold mean mt mt mt mt mt
  rw [st 0 (by omega), st 1 (by omega), st 2 (by omega), st 3 (by omega)]
theorem mean_lt {x : Mem} {k d : Nat} {num : Int32} {mm : Nat} (h4 : ¬ (mean x k d num mm).1 = 4) : (mean x k d num mm).1 < 4 := by
  unfold mean mt mt mt mt mt at h4 ⊢
  repeat' split <;> first | omega | simp_all
theorem PT.hMq {z w0 : Mem} {num : Int32} {mm : Nat} (h : PT z w0) : PT (hrM z 7 0 0 num mm) (hrM w0 7 0 0 num mm) := by
  unfold hrM
  rw [h.mnq, h.2.2, h.a (n := 31 + 22 * 0) (by omega) (by omega)]
  split
  · exact h.upq (by rw [h.a (n := 35 + 22 * 0) (by omega) (by omega)])
  · split
    · exact (h.upq rfl).upq (by rw [h.a (n := 34 + 22 * 0) (by omega) (by omega)])
    · rename_i h4
      have hlt := mean_lt h4
      have e2 := h.a (n := 38 + 22 * 0 + 4 * (mean w0 7 0 num mm).1) (by omega) (by omega)
      have e3 := h.a (n := 39 + 22 * 0 + 4 * (mean w0 7 0 num mm).1) (by omega) (by omega)
      have ht : takS z 7 0 (mean w0 7 0 num mm).1 (nI (mean w0 7 0 num mm).2) (z 0 0) = takS w0 7 0 (mean w0 7 0 num mm).1 (nI (mean w0 7 0 num mm).2) (w0 0 0) := by
        unfold takS
        rw [e2, e3, h.2.1]
      by_cases h5 : takS w0 7 0 (mean w0 7 0 num mm).1 (nI (mean w0 7 0 num mm).2) (w0 0 0)
      · rw [if_pos h5, if_pos (by rw [ht]; exact h5)]
        have h6 : PT (tak1 z 7 0 (mean w0 7 0 num mm).1 (nI (mean w0 7 0 num mm).2)) (tak1 w0 7 0 (mean w0 7 0 num mm).1 (nI (mean w0 7 0 num mm).2)) := by
          unfold tak1
          exact (h.upq (by rw [e2])).upq rfl
        unfold opnM
        exact ((h6.upq rfl).upq (by rw [h6.a (n := 32 + 22 * 0) (by omega) (by omega)])).upq rfl
      · rw [if_neg h5, if_neg (by rw [ht]; exact h5)]
        unfold tak0
        exact (h.upq (by rw [e2])).upq (by rw [h.a (n := 33 + 22 * 0) (by omega) (by omega)])
theorem pto_congr {sc : Int32} {mm : Nat} : ∀ (f : Nat) (z w0 : Mem) (c : Int32) (i : Nat), PT z w0 → ptoS sc mm f z c i = ptoS sc mm f w0 c i
  | 0, _, _, _, _, _ => rfl
  | f + 1, z, w0, c, i, h => by
    unfold ptoS
    rw [h.hrq, pto_congr f _ _ (nx c) (i + 1) h.hMq]
theorem E7.PT {x y : Mem} (h : E7 x y) {d : Nat} : PT (triM y d) (triM x d) := by
  refine ⟨fun n hn => ?_, ?_, ?_⟩
  · unfold triM
    rw [cpS_in (by omega) (by omega), cpS_in (by omega) (by omega)]
    exact h.at (by omega)
  · unfold triM
    rw [cpS_b (by omega), cpS_b (by omega)]
    exact h.at (by omega)
  · unfold triM
    rw [cpS_b (by omega), cpS_b (by omega)]
    exact h.at (by omega)
theorem E7.pto {x y : Mem} (h : E7 x y) {d mm f i a b : Nat} : ptoS (y 0 a) mm f (triM y d) (y 0 b) i = ptoS (x 0 a) mm f (triM x d) (x 0 b) i := by
  rw [h.at (b := 0) (by omega), h.at (b := 0) (by omega)]
  exact pto_congr f _ _ _ _ h.PT
theorem mun_congr {x y : Mem} (h : E7 x y) {d mm : Nat} {sc : Int32} : ∀ (f : Nat) (c : Int32) (i : Nat) (r : Int32), munS y d sc mm f c i r = munS x d sc mm f c i r
  | 0, _, _, _ => rfl
  | f + 1, c, i, r => by
    unfold munS
    rw [h.hrd, mun_congr h f]
theorem E7.mun {x y : Mem} (h : E7 x y) {d mm f i a b : Nat} {r : Int32} : munS y d (y 0 a) mm f (y 0 b) i r = munS x d (x 0 a) mm f (x 0 b) i r := by
  rw [h.at (b := 0) (by omega), h.at (b := 0) (by omega)]
  exact mun_congr h f _ _ _
theorem fus_congr {x y : Mem} (h : E7 x y) {d mm : Nat} : ∀ (f i : Nat), fusS y d mm f i = fusS x d mm f i
  | 0, _ => rfl
  | f + 1, i => by
    unfold fusS
    rw [h.hrd, h.num, fus_congr h f]
def ptoX (x : Mem) (j d mm nb : Nat) : Int32 := ptoS (x 0 (14 + 4 * j)) mm (if nb < 50 then nb else 50) (triM x d) (x 0 (15 + 4 * j)) 0
def munX (x : Mem) (j d mm : Nat) : Int32 := munS x d (x 0 (14 + 4 * j)) mm 100 (x 0 (15 + 4 * j)) 0 (-1)
