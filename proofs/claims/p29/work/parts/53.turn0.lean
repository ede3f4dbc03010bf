/-! ===== what a turn's looks answer ===== -/
def duN (x : Mem) (nm msk : Int32) (mm : Nat) : Nat → Int32
  | 0 => 0
  | d + 1 => duN x nm msk mm d ||| (if nm < 0 then (0 : Int32) else if (msk >>> (nI d &&& 31)) &&& 1 = 1 then (if hrR x 0 d 0 nm mm = 0 then 1 <<< (nI d &&& 31) else 0) else 0)
theorem du_neg {x : Mem} {nm msk : Int32} {mm d : Nat} (h : nm < 0) : duN x nm msk mm (d + 1) = duN x nm msk mm d ||| 0 := by
  conv => lhs; unfold duN
  rw [if_pos h]
theorem du_bit {x : Mem} {nm msk : Int32} {mm d : Nat} (h : ¬ nm < 0) (h1 : ¬ (msk >>> (nI d &&& 31)) &&& 1 = 1) : duN x nm msk mm (d + 1) = duN x nm msk mm d ||| 0 := by
  conv => lhs; unfold duN
  rw [if_neg h, if_neg h1]
theorem du_no {x : Mem} {nm msk : Int32} {mm d : Nat} (h : ¬ nm < 0) (h1 : (msk >>> (nI d &&& 31)) &&& 1 = 1) (h2 : ¬ hrR x 0 d 0 nm mm = 0) : duN x nm msk mm (d + 1) = duN x nm msk mm d ||| 0 := by
  conv => lhs; unfold duN
  rw [if_neg h, if_pos h1, if_neg h2]
theorem du_yes {x : Mem} {nm msk : Int32} {mm d : Nat} (h : ¬ nm < 0) (h1 : (msk >>> (nI d &&& 31)) &&& 1 = 1) (h2 : hrR x 0 d 0 nm mm = 0) : duN x nm msk mm (d + 1) = duN x nm msk mm d ||| (1 <<< (nI d &&& 31)) := by
  conv => lhs; unfold duN
  rw [if_neg h, if_pos h1, if_pos h2]
theorem du_due {x : Mem} {nm msk : Int32} {mm : Nat} (h : ¬ nm < 0) : ∀ d, duN x nm msk mm d = dueS x nm msk mm d
  | 0 => rfl
  | d + 1 => by
    unfold duN dueS
    rw [if_neg h, du_due h d]
theorem mun_nn {x : Mem} {d mm : Nat} {sc : Int32} : ∀ (f : Nat) (c : Int32) (i : Nat) (r : Int32), (∃ j : Nat, j < 2 ^ 20 ∧ r = nI j) → i + f ≤ 100 → ∃ j : Nat, j < 2 ^ 20 ∧ munS x d sc mm f c i r = nI j
  | 0, _, _, _, h, _ => h
  | f + 1, c, i, r, h, hf => by
    unfold munS
    split
    · exact mun_nn f (nx c) (i + 1) (nI i) ⟨i, by omega, rfl⟩ (by omega)
    · exact h
theorem mun_1 {x : Mem} {d mm : Nat} {sc c : Int32} (h : hrR x 0 d 0 (nu sc (nx c)) mm = 0) : ∃ j : Nat, j < 2 ^ 20 ∧ munS x d sc mm 100 c 0 (-1) = nI j := by
  rw [mun_y h]
  exact mun_nn 99 (nx c) 1 (nI 0) ⟨0, by omega, rfl⟩ (by omega)
theorem pto_z {z : Mem} {mm : Nat} {sc c : Int32} : ptoS sc mm (if 0 < 50 then 0 else 50) z c 0 = -1 := rfl
theorem pto_1 {x : Mem} {d mm nb : Nat} {sc c : Int32} (hn : 0 < nb) (h : hrR x 0 d 0 (nu sc (nx c)) mm = 0) : ptoS sc mm (if nb < 50 then nb else 50) (triM x d) c 0 = 1 := by
  obtain ⟨k, hk⟩ : ∃ k, (if nb < 50 then nb else 50) = k + 1 := ⟨(if nb < 50 then nb else 50) - 1, by split <;> omega⟩
  rw [hk, pto_0 (by rw [tri_hr]; exact h)]
  rfl
theorem num_or {x : Mem} {mm nr i B : Nat} (h : CV (x 0) mm B) (h8 : nr ≤ 8) (hnr : x 0 5 = nI nr) (hi : i < 8) : (i < nr ∧ numA x 0 (nI i) = x 0 (6 + i) ∧ ∃ q : Nat, q < 65536 ∧ numA x 0 (nI i) = nI q) ∨ (¬ i < nr ∧ numA x 0 (nI i) = -1) := by
  obtain ⟨nr', h1, h2, h3⟩ := h.1.2.2.2.2.2.2.1
  have e : nr' = nr := (nI_eq (by omega) (by omega)).mp (h2.symm.trans hnr)
  subst e
  by_cases q : i < nr'
  · obtain ⟨w, hw, ew⟩ := h3 i q
    exact Or.inl ⟨q, num_n q h8 hnr, w, hw, (num_n q h8 hnr).trans ew⟩
  · exact Or.inr ⟨q, num_o q h8 hnr (by omega)⟩
theorem nxt_e {x z : Mem} (h : E7 x z) {j : Nat} : nxtN z 0 j = nxtN x 0 j := by
  unfold nxtN
  rw [h 0 (by omega)]
/-- the answers of a turn's doing, said of the state before its looks -/
theorem ACT.e7 {x z y : Mem} {mm nr q B : Nat} {a b r : Int32} (h : E7 x z) (hA : ACT z mm nr q a b B r y) : I29 y (B + 4) ∧ (r < 0 → y = z) ∧
  (11 ≤ q → q ≤ 16 → (x 0 (16 + 4 * lo a 4) ≤ 0 → r = -3) ∧ (¬ x 0 (16 + 4 * lo a 4) ≤ 0 → r = dueS x (nxtN x 0 (lo a 4)) (nI (lo b 8)) mm 3 ∧ y 0 (16 + 4 * lo a 4) = x 0 (16 + 4 * lo a 4) - 1 ∧ numA y 0 0 = nxtN x 0 (lo a 4))) ∧
  (q = 17 ∨ q = 18 → r = if lo a 8 < nr then dueS x (x 0 (6 + lo a 8)) (nI (lo b 8)) mm 3 else -1) ∧
  (q = 6 → y 0 (31 + 22 * lo b 3) = 0) := by
  unfold ACT at hA
  rw [h 0 (by omega), due_cg h, due_cg h, nxt_e h] at hA
  exact hA
