/-! ===== what the methods compute, as functions of the memory ===== -/
def nx (c : Int32) : Int32 := if 9999 ≤ c then 0 else c + 1
def nu (s c : Int32) : Int32 := ((c * 40503 + s * 7919) ^^^ (s * 31 + c)) &&& 65535
/-- a stretch of a block copied -/
def cpS (x : Mem) (k o k2 o2 len : Nat) : Mem := fun b n => if b = k ∧ o ≤ n ∧ n < o + len then x k2 (o2 + (n - o)) else x b n
theorem cpS_in {x : Mem} {k o k2 o2 len n : Nat} (h1 : o ≤ n) (h2 : n < o + len) : cpS x k o k2 o2 len k n = x k2 (o2 + (n - o)) := by simp [cpS, h1, h2]
theorem cpS_b {x : Mem} {k o k2 o2 len b n : Nat} (h : b ≠ k) : cpS x k o k2 o2 len b n = x b n := by simp [cpS, h]
theorem cpS_app {x : Mem} {k o k2 o2 a c : Nat} (h : k2 ≠ k) : cpS (cpS x k o k2 o2 a) k (o + a) k2 (o2 + a) c = cpS x k o k2 o2 (a + c) := by
  funext b n
  by_cases hb : b = k
  · subst hb
    by_cases h1 : o + a ≤ n ∧ n < o + a + c
    · rw [cpS_in h1.1 h1.2, cpS_b h, cpS_in (by omega) (by omega)]
      congr 1; omega
    · simp only [cpS, true_and, if_neg h1]
      by_cases h2 : o ≤ n ∧ n < o + a
      · rw [if_pos h2, if_pos (by omega)]
      · rw [if_neg h2, if_neg (by omega)]
  · rw [cpS_b hb, cpS_b hb, cpS_b hb]
/-- one place copied -/
theorem cpS_1 {x : Mem} {k o k2 o2 : Nat} : up x k o (x k2 o2) = cpS x k o k2 o2 1 := by
  funext b n
  by_cases hb : b = k
  · subst hb
    by_cases hn : n = o
    · subst hn; simp [up, cpS]
    · simp only [up, cpS, true_and, if_neg hn]
      rw [if_neg (by omega)]
  · rw [cpS_b hb, up_b _ _ _ hb]
theorem cpS_up {x : Mem} {k o k2 o2 a : Nat} (h : k2 ≠ k) : up (cpS x k o k2 o2 a) k (o + a) (x k2 (o2 + a)) = cpS x k o k2 o2 (a + 1) := by
  rw [show x k2 (o2 + a) = cpS x k o k2 o2 a k2 (o2 + a) from (cpS_b h).symm, cpS_1, cpS_app h]
def sndF (x : Mem) (k j : Nat) : Mem := up (up (up x k (16 + 4 * j) (x k (16 + 4 * j) - 1)) k (17 + 4 * j) (x k (17 + 4 * j) + 1)) k (15 + 4 * j) (nx (x k (15 + 4 * j)))
def lookFob (x : Mem) (k j : Nat) (w : Int32) : Int32 := if w = 0 then x k (14 + 4 * j) else if w = 1 then x k (15 + 4 * j) else if w = 2 then x k (16 + 4 * j) else if w = 3 then nu (x k (14 + 4 * j)) (nx (x k (15 + 4 * j))) else if w = 4 then x k (17 + 4 * j) else -1
def isFlag (v : Int32) : Prop := v = 0 ∨ v = 1
def lrnS (x : Mem) (k d s kf j : Nat) : Mem := up (up (up (up x k (36 + 22 * d + 4 * s) 1) k (37 + 22 * d + 4 * s) (x kf (14 + 4 * j))) k (38 + 22 * d + 4 * s) (x kf (15 + 4 * j))) k (39 + 22 * d + 4 * s) (-1)
def empS (x : Mem) (k d s : Nat) : Mem := up (up (up (up x k (36 + 22 * d + 4 * s) 0) k (37 + 22 * d + 4 * s) (-1)) k (38 + 22 * d + 4 * s) (-1)) k (39 + 22 * d + 4 * s) (-1)
def lookSlot (x : Mem) (k d s : Nat) (w : Int32) : Int32 := if w = 0 then (if x k (36 + 22 * d + 4 * s) = 0 then 0 else 1) else if w = 1 then x k (37 + 22 * d + 4 * s) else if w = 2 then x k (38 + 22 * d + 4 * s) else if w = 3 then x k (39 + 22 * d + 4 * s) else -1
def lockS (lock row : Int32) : Int32 := if lock ≤ 0 then 0 else if row < lock then 0 else 1
