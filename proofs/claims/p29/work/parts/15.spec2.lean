theorem irng {a mm : Int32} {n : Nat} (hm : mm = nI n) (hn : n < 2 ^ 31) (h1 : ¬ a < 0) (h2 : ¬ mm ≤ a) : ∃ i : Nat, i < n ∧ a = nI i := by
  rcases pk_ix a hn with h | h | h
  · exact absurd h h1
  · rw [hm] at h2; exact absurd h h2
  · exact h
theorem cpS_pre {x : Mem} {k o k2 o2 a c : Nat} (h : k2 ≠ k) : cpS (cpS x k (o + a) k2 (o2 + a) c) k o k2 o2 a = cpS x k o k2 o2 (a + c) := by
  funext b n
  by_cases hb : b = k
  · subst hb
    by_cases h1 : o ≤ n ∧ n < o + a
    · rw [cpS_in h1.1 h1.2, cpS_b h, cpS_in (by omega) (by omega)]
    · simp only [cpS, true_and, if_neg h1]
      by_cases h2 : o + a ≤ n ∧ n < o + a + c
      · rw [if_pos h2, if_pos (by omega)]
        congr 1; omega
      · rw [if_neg h2, if_neg (by omega)]
  · rw [cpS_b hb, cpS_b hb, cpS_b hb]
def recF (x : Mem) (k : Nat) (num : Int32) : Mem := up (up (shA x k) k 6 num) k 5 (if 8 < x k 5 + 1 then 8 else x k 5 + 1)
def numA (x : Mem) (k : Nat) (q : Int32) : Int32 := if q < 0 then -1 else if x k 5 ≤ q then -1 else if 8 ≤ q then -1 else x k (6 + q.toNatClampNeg)
def valS (x : Mem) (k : Nat) (i : Int32) : Int32 := if i = 0 then x k 0 else if i = 1 then x k 1 else x k 2
def chgS (x : Mem) (k : Nat) (i v : Int32) : Mem := if i = 0 then up x k 0 v else if i = 1 then up x k 1 v else up x k 2 v
theorem so_cp {cy : Nat → ClassId} {ad : Ads} {x : Mem} {k k2 : Nat} (h : k < 7) : SO cy ad x (cpS x k 6 k2 6 8) k 7 0 (.inl (cy 0, 8, .inl (va_cpy (fun i => if i < 8 then x k2 (6 + i) else 0) (fun i => if i < 8 then x k (6 + i) else 0) 0 0 8))) := by
  refine ⟨?_, fun k' c' j' hd hne => EE_congr hd fun b n ho => ?_⟩
  · show Sum.inl _ = Sum.inl _
    congr 4
    funext i
    unfold va_cpy cpS
    by_cases h8 : i < 8
    · rw [if_pos h8, if_pos (by omega), if_pos (by omega)]
      show x k2 (6 + (6 + i - 6)) = if 0 + (i - 0) < 8 then x k2 (6 + (0 + (i - 0))) else 0
      rw [if_pos (by omega)]
      congr 1
      omega
    · rw [if_neg h8, if_neg (by omega)]
      exact (if_neg h8).symm
  · unfold cpS
    rw [if_neg]
    rintro ⟨rfl, h1, h2⟩
    apply hne
    rw [← ho, show n = 6 + (n - 6) by omega]
    exact ow_air (by omega) (by omega)
theorem cpAir {x : Mem} {k k2 : Nat} (h : k2 ≠ k) : up (cpS x k 6 k2 6 8) k 5 (cpS x k 6 k2 6 8 k2 5) = cpS x k 5 k2 5 9 := by
  rw [cpS_1]
  exact cpS_pre (o := 5) (o2 := 5) (a := 1) (c := 8) h
def stp (sc num : Int32) : Nat → Int32 → Nat → Nat
  | 0, _, _ => 0
  | f + 1, c, i => if nu sc (nx c) = num then i + 1 else stp sc num f (nx c) (i + 1)
/-- how far ahead the number is for a slot -/
def stpS (x : Mem) (k d s : Nat) (num : Int32) (m : Nat) : Nat := if x k (36 + 22 * d + 4 * s) = 0 then 0 else stp (x k (37 + 22 * d + 4 * s)) num m (x k (38 + 22 * d + 4 * s)) 0
def ctr (a st : Int32) : Int32 := (a + st) - (a + st) / 10000 * 10000
/-- whether the one that is meant opens -/
abbrev opnS (last noted st w : Int32) : Prop := st ≤ w ∨ (noted ≠ -1 ∧ ctr last st = nx noted)
abbrev takS (x : Mem) (k d s : Nat) (st w : Int32) : Prop := opnS (x k (38 + 22 * d + 4 * s)) (x k (39 + 22 * d + 4 * s)) st w
def tak1 (x : Mem) (k d s : Nat) (st : Int32) : Mem := up (up x k (38 + 22 * d + 4 * s) (ctr (x k (38 + 22 * d + 4 * s)) st)) k (39 + 22 * d + 4 * s) (-1)
def tak0 (x : Mem) (k d s : Nat) (st : Int32) : Mem := up x k (39 + 22 * d + 4 * s) (ctr (x k (38 + 22 * d + 4 * s)) st)
def lrnD (x : Mem) (k d : Nat) : Int32 := 0 + lookSlot x k d 0 0 + lookSlot x k d 1 0 + lookSlot x k d 2 0 + lookSlot x k d 3 0
def lookDoor (x : Mem) (k d : Nat) (lock w : Int32) : Int32 := if w = 0 then (if x k (30 + 22 * d) = 0 then 0 else 1) else if w = 1 then x k (31 + 22 * d) else if w = 2 then (if lockS lock (x k (31 + 22 * d)) = 0 then 0 else 1) else if w = 3 then lrnD x k d else if w = 4 then x k (32 + 22 * d) else if w = 5 then x k (33 + 22 * d) else if w = 6 then x k (34 + 22 * d) else if w = 7 then x k (35 + 22 * d) else -1
def FLG (x : Mem) (k : Nat) : Prop := ∀ d, d < 3 → isFlag (x k (30 + 22 * d)) ∧ ∀ s, s < 4 → isFlag (x k (36 + 22 * d + 4 * s))
theorem nIj {a b : Nat} (h : a + 1 = b) : nI a + Int32.ofInt 1 = nI b := by rw [← h]; exact nI_1 a
theorem so_7 {cy : Nat → ClassId} {ad : Ads} {x : Mem} {v : Int32} {k i : Nat} (h : k < 7) (hi : i < 8) : SO cy ad x (up x k (6 + i) v) k 7 0 (.inl (cy 0, 8, .inl (upd (fun i => if i < 8 then x k (6 + i) else 0) i v))) := by
  refine so_up (ow_air (by omega) hi) ?_
  show Sum.inl _ = Sum.inl _
  congr 4
  funext n
  by_cases hn : n = i
  · subst hn; simp [up, upd, hi]
  · by_cases h8 : n < 8
    · rw [if_pos h8]; simp [up, upd, hn, h8]
    · rw [if_neg h8]; simp [upd, hn, h8]
theorem stp_n {sc num cv : Int32} {f i : Nat} (h : ¬ nu sc (nx cv) = num) : stp sc num (f + 1) cv i = stp sc num f (nx cv) (i + 1) := by simp [stp, h]
theorem stp_y {sc num cv : Int32} {f i : Nat} (h : nu sc (nx cv) = num) : stp sc num (f + 1) cv i = i + 1 := by simp [stp, h]
