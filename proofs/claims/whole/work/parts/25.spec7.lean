/-- the set of a part of the text from s to e -/
def mskS (x : Mem) (s e : Nat) : Int32 := mkS x (e - (s + 2)) (s + 2) 0
/-- a part is done: 0 where it is not possible -/
def ppS (x : Mem) (s e mm : Nat) : Int32 × Mem :=
  if codeS x (nI s) = 102 then (if x 0 (16 + 4 * (digS x (nI (s + 1))).toNatClampNeg) ≤ 0 then (0, x) else (1, (prsS x 0 (digS x (nI (s + 1))).toNatClampNeg (mskS x s e) mm).2))
  else if codeS x (nI s) = 114 then (if (digS x (nI (s + 1))).toNatClampNeg < (x 0 5).toNatClampNeg then (1, (agnS x (digS x (nI (s + 1))).toNatClampNeg (mskS x s e) mm).2) else (0, x))
  else (1, up x 0 (30 + 22 * (digS x (nI (s + 1))).toNatClampNeg) 0)
theorem pp_f0 {x : Mem} {s e mm q : Nat} (hc : codeS x (nI s) = 102) (hq : digS x (nI (s + 1)) = nI q) (h4 : q < 4) (hb : x 0 (16 + 4 * q) ≤ 0) : ppS x s e mm = (0, x) := by
  unfold ppS
  rw [if_pos hc, hq, nI_clamp (by omega), if_pos hb]
theorem pp_f1 {x : Mem} {s e mm q : Nat} (hc : codeS x (nI s) = 102) (hq : digS x (nI (s + 1)) = nI q) (h4 : q < 4) (hb : ¬ x 0 (16 + 4 * q) ≤ 0) : ppS x s e mm = (1, (prsS x 0 q (mskS x s e) mm).2) := by
  unfold ppS
  rw [if_pos hc, hq, nI_clamp (by omega), if_neg hb]
theorem pp_r0 {x : Mem} {s e mm q nr : Nat} (hc : codeS x (nI s) = 114) (hq : digS x (nI (s + 1)) = nI q) (h4 : q < 8) (hnr : x 0 5 = nI nr) (hr8 : nr ≤ 8) (hb : ¬ q < nr) : ppS x s e mm = (0, x) := by
  unfold ppS
  rw [if_neg (by rw [hc]; decide), if_pos hc, hq, nI_clamp (by omega), hnr, nI_clamp (by omega), if_neg hb]
theorem pp_r1 {x : Mem} {s e mm q nr : Nat} (hc : codeS x (nI s) = 114) (hq : digS x (nI (s + 1)) = nI q) (h4 : q < 8) (hnr : x 0 5 = nI nr) (hr8 : nr ≤ 8) (hb : q < nr) : ppS x s e mm = (1, (agnS x q (mskS x s e) mm).2) := by
  unfold ppS
  rw [if_neg (by rw [hc]; decide), if_pos hc, hq, nI_clamp (by omega), hnr, nI_clamp (by omega), if_pos hb]
theorem pp_c {x : Mem} {s e mm q : Nat} (hc : codeS x (nI s) = 99) (hq : digS x (nI (s + 1)) = nI q) (h4 : q < 3) : ppS x s e mm = (1, up x 0 (30 + 22 * q) 0) := by
  unfold ppS
  rw [if_neg (by rw [hc]; decide), if_neg (by rw [hc]; decide), hq, nI_clamp (by omega)]
