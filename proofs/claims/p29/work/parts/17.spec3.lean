theorem stp_le {sc num : Int32} : ∀ (f : Nat) (cv : Int32) (i : Nat), stp sc num f cv i ≤ i + f
  | 0, _, _ => Nat.zero_le _
  | f + 1, cv, i => by
    unfold stp
    split
    · omega
    · have := stp_le (sc := sc) (num := num) f (nx cv) (i + 1)
      omega
theorem stpS_le {x : Mem} {k d s : Nat} {num : Int32} {mm : Nat} : stpS x k d s num mm ≤ mm := by
  unfold stpS
  split
  · exact Nat.zero_le _
  · have := stp_le (sc := x k (37 + 22 * d + 4 * s)) (num := num) mm (x k (38 + 22 * d + 4 * s)) 0
    omega
def mt (x : Mem) (k d : Nat) (num : Int32) (mm : Nat) : Nat → Nat → Nat × Nat
  | 0, _ => (4, 0)
  | f + 1, s => if stpS x k d s num mm = 0 then mt x k d num mm f (s + 1) else (s, stpS x k d s num mm)
/-- the slot that is meant (4: none) and how far ahead -/
def mean (x : Mem) (k d : Nat) (num : Int32) (mm : Nat) : Nat × Nat := mt x k d num mm 4 0
theorem mean_0 {x : Mem} {k d : Nat} {num : Int32} {mm : Nat} (h : stpS x k d 0 num mm ≠ 0) : mean x k d num mm = (0, stpS x k d 0 num mm) := by simp [mean, mt, h]
theorem mean_1 {x : Mem} {k d : Nat} {num : Int32} {mm : Nat} (h0 : stpS x k d 0 num mm = 0) (h : stpS x k d 1 num mm ≠ 0) : mean x k d num mm = (1, stpS x k d 1 num mm) := by simp [mean, mt, h0, h]
theorem mean_2 {x : Mem} {k d : Nat} {num : Int32} {mm : Nat} (h0 : stpS x k d 0 num mm = 0) (h1 : stpS x k d 1 num mm = 0) (h : stpS x k d 2 num mm ≠ 0) : mean x k d num mm = (2, stpS x k d 2 num mm) := by simp [mean, mt, h0, h1, h]
theorem mean_3 {x : Mem} {k d : Nat} {num : Int32} {mm : Nat} (h0 : stpS x k d 0 num mm = 0) (h1 : stpS x k d 1 num mm = 0) (h2 : stpS x k d 2 num mm = 0) (h : stpS x k d 3 num mm ≠ 0) : mean x k d num mm = (3, stpS x k d 3 num mm) := by simp [mean, mt, h0, h1, h2, h]
theorem mean_4 {x : Mem} {k d : Nat} {num : Int32} {mm : Nat} (h0 : stpS x k d 0 num mm = 0) (h1 : stpS x k d 1 num mm = 0) (h2 : stpS x k d 2 num mm = 0) (h3 : stpS x k d 3 num mm = 0) : mean x k d num mm = (4, 0) := by simp [mean, mt, h0, h1, h2, h3]
/-- what a door does with a number: 0 it opens, 1 it notes, 2 it is wrong, 3 it is locked -/
def hrR (x : Mem) (k d k2 : Nat) (num : Int32) (mm : Nat) : Int32 :=
  if lockS (x k2 2) (x k (31 + 22 * d)) ≠ 0 then 3 else if (mean x k d num mm).1 = 4 then 2
  else if takS x k d (mean x k d num mm).1 (nI (mean x k d num mm).2) (x k2 0) then 0 else 1
def opnM (z : Mem) (k d : Nat) : Mem := up (up (up z k (30 + 22 * d) 1) k (32 + 22 * d) (z k (32 + 22 * d) + 1)) k (31 + 22 * d) 0
def hrM (x : Mem) (k d k2 : Nat) (num : Int32) (mm : Nat) : Mem :=
  if lockS (x k2 2) (x k (31 + 22 * d)) ≠ 0 then up x k (35 + 22 * d) (x k (35 + 22 * d) + 1)
  else if (mean x k d num mm).1 = 4 then up (up x k (31 + 22 * d) (x k (31 + 22 * d) + 1)) k (34 + 22 * d) (x k (34 + 22 * d) + 1)
  else if takS x k d (mean x k d num mm).1 (nI (mean x k d num mm).2) (x k2 0) then opnM (tak1 x k d (mean x k d num mm).1 (nI (mean x k d num mm).2)) k d
  else up (tak0 x k d (mean x k d num mm).1 (nI (mean x k d num mm).2)) k (33 + 22 * d) (x k (33 + 22 * d) + 1)
theorem hr_3 {x : Mem} {k d k2 : Nat} {num : Int32} {mm : Nat} (hL : ¬ lockS (x k2 2) (x k (31 + 22 * d)) = 0) : hrR x k d k2 num mm = 3 ∧ hrM x k d k2 num mm = up x k (35 + 22 * d) (x k (35 + 22 * d) + 1) := by
  unfold hrR hrM
  rw [if_pos hL, if_pos hL]
  exact ⟨rfl, rfl⟩
theorem hr_2 {x : Mem} {k d k2 : Nat} {num : Int32} {mm : Nat} (hL : lockS (x k2 2) (x k (31 + 22 * d)) = 0) (hM : mean x k d num mm = (4, 0)) : hrR x k d k2 num mm = 2 ∧ hrM x k d k2 num mm = up (up x k (31 + 22 * d) (x k (31 + 22 * d) + 1)) k (34 + 22 * d) (x k (34 + 22 * d) + 1) := by
  refine ⟨?_, ?_⟩
  · unfold hrR
    rw [if_neg (fun h => h hL), hM]
    rfl
  · unfold hrM
    rw [if_neg (fun h => h hL), hM]
    rfl
theorem hr_0 {x : Mem} {k d k2 s t : Nat} {num : Int32} {mm : Nat} (hL : lockS (x k2 2) (x k (31 + 22 * d)) = 0) (hM : mean x k d num mm = (s, t)) (hs : s < 4) (hT : takS x k d s (nI t) (x k2 0)) : hrR x k d k2 num mm = 0 ∧ hrM x k d k2 num mm = opnM (tak1 x k d s (nI t)) k d := by
  have h4 : ¬ (s, t).1 = 4 := (by omega : ¬ s = 4)
  refine ⟨?_, ?_⟩
  · unfold hrR
    rw [if_neg (fun h => h hL), hM, if_neg h4, if_pos hT]
  · unfold hrM
    rw [if_neg (fun h => h hL), hM, if_neg h4, if_pos hT]
theorem hr_1 {x : Mem} {k d k2 s t : Nat} {num : Int32} {mm : Nat} (hL : lockS (x k2 2) (x k (31 + 22 * d)) = 0) (hM : mean x k d num mm = (s, t)) (hs : s < 4) (hT : ¬ takS x k d s (nI t) (x k2 0)) : hrR x k d k2 num mm = 1 ∧ hrM x k d k2 num mm = up (tak0 x k d s (nI t)) k (33 + 22 * d) (x k (33 + 22 * d) + 1) := by
  have h4 : ¬ (s, t).1 = 4 := (by omega : ¬ s = 4)
  refine ⟨?_, ?_⟩
  · unfold hrR
    rw [if_neg (fun h => h hL), hM, if_neg h4, if_neg hT]
  · unfold hrM
    rw [if_neg (fun h => h hL), hM, if_neg h4, if_neg hT]
theorem cpDoor {x : Mem} {k k2 o o2 : Nat} (h : k2 ≠ k) : cpS (cpS (cpS (cpS (cpS x k (o + 6) k2 (o2 + 6) 4) k (o + 10) k2 (o2 + 10) 4) k (o + 14) k2 (o2 + 14) 4) k (o + 18) k2 (o2 + 18) 4) k o k2 o2 6 = cpS x k o k2 o2 22 := by
  have e1 := cpS_app (x := x) (k := k) (o := o + 6) (k2 := k2) (o2 := o2 + 6) (a := 4) (c := 4) h
  have e2 := cpS_app (x := x) (k := k) (o := o + 6) (k2 := k2) (o2 := o2 + 6) (a := 8) (c := 4) h
  have e3 := cpS_app (x := x) (k := k) (o := o + 6) (k2 := k2) (o2 := o2 + 6) (a := 12) (c := 4) h
  have e4 := cpS_pre (x := x) (k := k) (o := o) (k2 := k2) (o2 := o2) (a := 6) (c := 16) h
  rw [show o + 10 = o + 6 + 4 by omega, show o2 + 10 = o2 + 6 + 4 by omega, e1, show o + 14 = o + 6 + 8 by omega, show o2 + 14 = o2 + 6 + 8 by omega, e2, show o + 18 = o + 6 + 12 by omega, show o2 + 18 = o2 + 6 + 12 by omega, e3, e4]
theorem cpState {x : Mem} {k k2 : Nat} (h : k2 ≠ k) : cpS (cpS (cpS (cpS (cpS (cpS (cpS (cpS (cpS x k 14 k2 14 4) k 18 k2 18 4) k 22 k2 22 4) k 26 k2 26 4) k 30 k2 30 22) k 52 k2 52 22) k 74 k2 74 22) k 5 k2 5 9) k 0 k2 0 5 = cpS x k 0 k2 0 96 := by
  have e1 := cpS_app (x := x) (k := k) (o := 14) (k2 := k2) (o2 := 14) (a := 4) (c := 4) h
  have e2 := cpS_app (x := x) (k := k) (o := 14) (k2 := k2) (o2 := 14) (a := 8) (c := 4) h
  have e3 := cpS_app (x := x) (k := k) (o := 14) (k2 := k2) (o2 := 14) (a := 12) (c := 4) h
  have e4 := cpS_app (x := x) (k := k) (o := 14) (k2 := k2) (o2 := 14) (a := 16) (c := 22) h
  have e5 := cpS_app (x := x) (k := k) (o := 14) (k2 := k2) (o2 := 14) (a := 38) (c := 22) h
  have e6 := cpS_app (x := x) (k := k) (o := 14) (k2 := k2) (o2 := 14) (a := 60) (c := 22) h
  have e7 := cpS_pre (x := x) (k := k) (o := 5) (k2 := k2) (o2 := 5) (a := 9) (c := 82) h
  have e8 := cpS_pre (x := x) (k := k) (o := 0) (k2 := k2) (o2 := 0) (a := 5) (c := 91) h
  simp only [Nat.reduceAdd] at e1 e2 e3 e4 e5 e6 e7 e8
  rw [e1, e2, e3, e4, e5, e6, e7, e8]
theorem cpStateF {x : Mem} {k k2 : Nat} (h : k2 ≠ k) : up (up (cpS (cpS (cpS (cpS (cpS (cpS (cpS (cpS (cpS x k 14 k2 14 4) k 18 k2 18 4) k 22 k2 22 4) k 26 k2 26 4) k 30 k2 30 22) k 52 k2 52 22) k 74 k2 74 22) k 5 k2 5 9) k 0 k2 0 3) k 3 (x k2 3)) k 4 (x k2 4) = cpS x k 0 k2 0 96 := by
  rw [← cpState h]
  obtain ⟨W0, hW⟩ : ∃ W0, W0 = (cpS (cpS (cpS (cpS (cpS (cpS (cpS (cpS x k 14 k2 14 4) k 18 k2 18 4) k 22 k2 22 4) k 26 k2 26 4) k 30 k2 30 22) k 52 k2 52 22) k 74 k2 74 22) k 5 k2 5 9) := ⟨_, rfl⟩
  have w3 : ∀ n, x k2 n = W0 k2 n := fun n => by rw [hW]; simp only [cpS_b h]
  rw [← hW, w3 3, w3 4]
  have e1 := cpS_up (x := W0) (k := k) (o := 0) (k2 := k2) (o2 := 0) (a := 3) h
  have e2 := cpS_up (x := W0) (k := k) (o := 0) (k2 := k2) (o2 := 0) (a := 4) h
  simp only [Nat.zero_add, Nat.reduceAdd] at e1 e2
  rw [e1, e2]
theorem tak0_33 {x : Mem} {k d s : Nat} {st : Int32} : tak0 x k d s st k (33 + 22 * d) = x k (33 + 22 * d) := up_n _ _ (by omega)
