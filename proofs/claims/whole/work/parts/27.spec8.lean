theorem recF_b {x : Mem} {k b n : Nat} {v : Int32} (h : b ≠ k) : recF x k v b n = x b n := by
  unfold recF shA
  rw [up_b _ _ _ h, up_b _ _ _ h]
  simp [h]
theorem sndF_b {x : Mem} {k j b n : Nat} (h : b ≠ k) : sndF x k j b n = x b n := by
  unfold sndF
  rw [up_b _ _ _ h, up_b _ _ _ h, up_b _ _ _ h]
theorem sndF_lo {x : Mem} {k j n : Nat} (h : n < 14) : sndF x k j k n = x k n := by
  unfold sndF
  rw [up_n _ _ (by omega), up_n _ _ (by omega), up_n _ _ (by omega)]
theorem prsS_b {x : Mem} {k j b n : Nat} {msk : Int32} {mm : Nat} (h : b ≠ k) : (prsS x k j msk mm).2 b n = x b n := by
  unfold prsS
  rw [sendS_b h, recF_b h, sndF_b h]
theorem prsS_1 {x : Mem} {k j : Nat} {msk : Int32} {mm : Nat} : (prsS x k j msk mm).2 k 1 = x k 1 := by
  unfold prsS
  rw [sendS_lo (by omega), recF_1, sndF_1]
theorem prsS_5 {x : Mem} {k j nr : Nat} {msk : Int32} {mm : Nat} (h : x k 5 = nI nr) (h8 : nr ≤ 8) : ∃ nr' : Nat, nr' ≤ 8 ∧ (prsS x k j msk mm).2 k 5 = nI nr' := by
  unfold prsS
  rw [sendS_lo (by omega)]
  unfold recF
  rw [up_s, sndF_lo (by omega), h, nI_1]
  by_cases h9 : nr + 1 ≤ 8
  · exact ⟨nr + 1, h9, if_neg (fun q => absurd ((nI_ltI (a := 8) (b := nr + 1) (by omega) (by omega)).mp q) (by omega))⟩
  · exact ⟨8, Nat.le_refl _, if_pos ((nI_ltI (a := 8) (b := nr + 1) (by omega) (by omega)).mpr (by omega))⟩
theorem agnS_b {x : Mem} {ii b n : Nat} {msk : Int32} {mm : Nat} (h : b ≠ 0) : (agnS x ii msk mm).2 b n = x b n := by
  show up _ 0 4 _ b n = _
  rw [up_b _ _ _ h, sendS_b h, up_b _ _ _ h]
theorem agnS_lo {x : Mem} {ii n : Nat} {msk : Int32} {mm : Nat} (h : n < 30) (h3 : n ≠ 3) (h4 : n ≠ 4) : (agnS x ii msk mm).2 0 n = x 0 n := by
  show up _ 0 4 _ 0 n = _
  rw [up_n _ _ h4, sendS_lo h, up_n _ _ h3]
/-- what the parts of a text leave as it is -/
def TI (x z : Mem) (mm : Nat) : Prop := (∀ b, b ≠ 0 → z b = x b) ∧ z 0 1 = nI mm ∧ ∃ nr : Nat, nr ≤ 8 ∧ z 0 5 = nI nr
theorem TI.f {x z : Mem} {mm j : Nat} {msk : Int32} (h : TI x z mm) : TI x (prsS z 0 j msk mm).2 mm := by
  obtain ⟨h1, h2, nr, h3, h4⟩ := h
  exact ⟨fun b hb => funext fun n => (prsS_b hb).trans (by rw [h1 b hb]), prsS_1.trans h2, prsS_5 h4 h3⟩
theorem TI.r {x z : Mem} {mm ii : Nat} {msk : Int32} (h : TI x z mm) : TI x (agnS z ii msk mm).2 mm := by
  obtain ⟨h1, h2, nr, h3, h4⟩ := h
  exact ⟨fun b hb => funext fun n => (agnS_b hb).trans (by rw [h1 b hb]), (agnS_lo (by omega) (by omega) (by omega)).trans h2, nr, h3, (agnS_lo (by omega) (by omega) (by omega)).trans h4⟩
theorem TI.c {x z : Mem} {mm q : Nat} {v : Int32} (h : TI x z mm) : TI x (up z 0 (30 + 22 * q) v) mm := by
  obtain ⟨h1, h2, nr, h3, h4⟩ := h
  exact ⟨fun b hb => funext fun n => (up_b _ _ _ hb).trans (by rw [h1 b hb]), (up_n _ _ (by omega)).trans h2, nr, h3, (up_n _ _ (by omega)).trans h4⟩
theorem TI.pp {x z : Mem} {mm s e : Nat} (h : TI x z mm) : TI x (ppS z s e mm).2 mm := by
  unfold ppS
  split
  · split
    · exact h
    · exact h.f
  · split
    · split
      · exact h.r
      · exact h
    · exact h.c
theorem code_b {x z : Mem} (h8 : z 8 2 = x 8 2) (h9 : z 9 = x 9) (a : Int32) : codeS z a = codeS x a := by
  unfold codeS
  rw [h8, h9]
theorem dig_b {x z : Mem} (h8 : z 8 2 = x 8 2) (h9 : z 9 = x 9) (a : Int32) : digS z a = digS x a := by
  unfold digS
  rw [code_b h8 h9]
/-- a part of the text from s to e: its sign, its digit -/
def PW (x : Mem) (s e : Nat) : Prop := s + 2 ≤ e ∧ ∃ q : Nat, digS x (nI (s + 1)) = nI q ∧ ((codeS x (nI s) = 102 ∧ q < 4) ∨ (codeS x (nI s) = 114 ∧ q < 8) ∨ (codeS x (nI s) = 99 ∧ q < 3))
/-- the automaton's state behind n characters -/
def stA (x : Mem) (n : Nat) : Int32 := feS x n 0 0
/-- what a complete text is cut into -/
def PWs (x : Mem) (tl : Nat) : Prop := ∀ s e, s ≤ e → e ≤ tl → stA x s = 0 → (∀ n, s ≤ n → n < e → codeS x (nI n) ≠ 59) → (e = tl ∨ codeS x (nI e) = 59) → PW x s e ∧ (e < tl → stA x (e + 1) = 0)
def plS (mm : Nat) : Nat → Mem → Nat → Nat → Nat → Nat × Mem
  | 0, z, _, _, dn => (dn, z)
  | f + 1, z, s, i, dn => if endS z (nI i) = 0 then plS mm f z s (i + 1) dn else if (ppS z s i mm).1 = 0 then (dn, (ppS z s i mm).2) else plS mm f (ppS z s i mm).2 (i + 1) (i + 1) (dn + 1)
theorem pl_n {mm f s i dn : Nat} {z : Mem} (h : endS z (nI i) = 0) : plS mm (f + 1) z s i dn = plS mm f z s (i + 1) dn := by simp [plS, h]
theorem pl_0 {mm f s i dn : Nat} {z : Mem} (h : ¬ endS z (nI i) = 0) (h2 : (ppS z s i mm).1 = 0) : plS mm (f + 1) z s i dn = (dn, (ppS z s i mm).2) := by simp [plS, h, h2]
theorem pl_y {mm f s i dn : Nat} {z : Mem} (h : ¬ endS z (nI i) = 0) (h2 : ¬ (ppS z s i mm).1 = 0) : plS mm (f + 1) z s i dn = plS mm f (ppS z s i mm).2 (i + 1) (i + 1) (dn + 1) := by simp [plS, h, h2]
theorem end_0 {z : Mem} {i tl : Nat} (h8 : z 8 2 = nI tl) (hi : i < 2 ^ 20) (ht : tl ≤ 60) (h : endS z (nI i) = 0) : i ≠ tl ∧ codeS z (nI i) ≠ 59 := by
  unfold endS at h
  rw [h8] at h
  by_cases h1 : nI i = nI tl
  · rw [if_pos h1] at h; exact absurd h (by decide)
  · rw [if_neg h1] at h
    by_cases h2 : codeS z (nI i) = 59
    · rw [if_pos h2] at h; exact absurd h (by decide)
    · exact ⟨fun q => h1 (by rw [q]), h2⟩
theorem end_1 {z : Mem} {i tl : Nat} (h8 : z 8 2 = nI tl) (hi : i < 2 ^ 20) (ht : tl ≤ 60) (h : ¬ endS z (nI i) = 0) : i = tl ∨ codeS z (nI i) = 59 := by
  unfold endS at h
  rw [h8] at h
  by_cases h1 : nI i = nI tl
  · exact Or.inl ((nI_eq (by omega) (by omega)).mp h1)
  · rw [if_neg h1] at h
    by_cases h2 : codeS z (nI i) = 59
    · exact Or.inr h2
    · rw [if_neg h2] at h; exact absurd rfl h
/-- the loop's place in the text -/
def JJ (x : Mem) (tl s i : Nat) : Prop := i ≤ tl → stA x s = 0 ∧ s ≤ i ∧ ∀ n, s ≤ n → n < i → codeS x (nI n) ≠ 59
theorem JJ.n {x : Mem} {tl s i : Nat} (h : JJ x tl s i) (hi : i ≤ tl) (h59 : codeS x (nI i) ≠ 59) : JJ x tl s (i + 1) := fun _ => by
  obtain ⟨h1, h2, h3⟩ := h hi
  refine ⟨h1, by omega, fun n hn hn2 => ?_⟩
  rcases Nat.lt_or_ge n i with q | q
  · exact h3 n hn q
  · have : n = i := by omega
    rw [this]; exact h59
theorem JJ.y {x : Mem} {tl s i : Nat} (hP : PWs x tl) (h : JJ x tl s i) (hi : i ≤ tl) (he : i = tl ∨ codeS x (nI i) = 59) : JJ x tl (i + 1) (i + 1) := fun h9 => by
  obtain ⟨h1, h2, h3⟩ := h hi
  exact ⟨(hP s i h2 hi h1 h3 he).2 (by omega), Nat.le_refl _, fun n a b => absurd b (by omega)⟩
theorem JJ.p {x : Mem} {tl s i : Nat} (hP : PWs x tl) (h : JJ x tl s i) (hi : i ≤ tl) (he : i = tl ∨ codeS x (nI i) = 59) : PW x s i := by
  obtain ⟨h1, h2, h3⟩ := h hi
  exact (hP s i h2 hi h1 h3 he).1
