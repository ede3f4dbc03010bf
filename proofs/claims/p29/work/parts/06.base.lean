/-! ===== the words of the tables that serve any method; the memory as a function of block and place; the world; the judgement RM ===== -/
def TB : List Cond := lw_tbl.filter goodWord
theorem tbm {i : Nat} {w : Cond} (h : lw_tbl[i]? = some w) (g : goodWord w = true) : w ∈ TB := List.mem_filter.mpr ⟨List.mem_of_getElem? h, g⟩
theorem goodTB {c : Cond} (hc : c ∈ TB) : GoodIn TB (c :: TB) := fun w h => by
  have hm : w ∈ TB := (List.mem_cons.mp h).elim (fun e => e ▸ hc) id
  exact ⟨hm, good_of_word (List.mem_filter.mp hm).2⟩
theorem fwTB : ∀ q ∈ vwCl, ∀ w ∈ u_ws q.1 q.2.1 q.2.2, w ∈ TB := by decide +kernel
theorem nmTB : ∀ q ∈ vwCl, ∀ a, a < q.2.2 → ∀ b, b < q.2.2 → a ≠ b → (q.2.1 a).2.1 ≠ (q.2.1 b).2.1 := by decide +kernel
abbrev Mem : Type := Nat → Nat → Int32
def up (x : Mem) (b n : Nat) (v : Int32) : Mem := fun b' n' => if b' = b ∧ n' = n then v else x b' n'
theorem up_s (x : Mem) (b n : Nat) (v : Int32) : up x b n v b n = v := by simp [up]
theorem up_ne (x : Mem) {b n b' n' : Nat} (v : Int32) (h : ¬ (b' = b ∧ n' = n)) : up x b n v b' n' = x b' n' := by simp [up, h]
theorem up_b (x : Mem) {b n b' : Nat} (n' : Nat) (v : Int32) (h : b' ≠ b) : up x b n v b' n' = x b' n' := by simp [up, h]
theorem up_n (x : Mem) {b n b' n' : Nat} (v : Int32) (h : n' ≠ n) : up x b n v b' n' = x b' n' := by simp [up, h]
abbrev Ads : Type := Nat → Nat → Nat → Nat
def ixB (k : Nat) : List (Nat × Nat × Nat) := [(k,0,0),(k,1,0),(k,2,0),(k,2,1),(k,2,2),(k,2,3),(k,3,0),(k,4,0),(k,4,1),(k,4,2),(k,5,0),(k,5,1),(k,5,2),(k,20,0),(k,20,1),(k,20,2),(k,20,3),(k,21,0),(k,21,1),(k,21,2),(k,21,3),(k,22,0),(k,22,1),(k,22,2),(k,22,3),(k,6,0),(k,7,0),(k,8,0)]
def ixC : List (Nat × Nat × Nat) := (List.range 7).flatMap ixB ++ [(7,4,0),(7,5,0),(7,20,0),(7,20,1),(7,20,2),(7,20,3),(8,9,0),(8,10,0),(8,11,0),(8,12,0),(9,13,0)]
def idx : List (Nat × Nat × Nat) := ixC
/-- what the object c, j of the block k holds -/
def EE (cy : Nat → ClassId) (ad : Ads) (x : Mem) (k c j : Nat) : va_E := match c with
  | 0 => .inr (6, [.ref (ad k 1 0), .ref (ad k 3 0), .ref (ad k 6 0), .ref (ad k 8 0), .int (x k 3), .int (x k 4)])
  | 1 => .inl (cy 1, 4, .inr (.inr (.inr (.inr (fun i => some (ad k 2 i))))))
  | 2 => .inr (2, [.int (x k (14 + 4 * j)), .int (x k (15 + 4 * j)), .int (x k (16 + 4 * j)), .int (x k (17 + 4 * j))])
  | 3 => .inl (cy 2, 3, .inr (.inr (.inr (.inr (fun i => some (ad k 4 i))))))
  | 4 => .inr (1, [.ref (ad k 5 j), .int (x k (30 + 22 * j)), .int (x k (31 + 22 * j)), .int (x k (32 + 22 * j)), .int (x k (33 + 22 * j)), .int (x k (34 + 22 * j)), .int (x k (35 + 22 * j))])
  | 5 => .inl (cy 3, 4, .inr (.inr (.inr (.inr (fun i => some (ad k (j + 20) i))))))
  | 6 => .inr (0, [.ref (ad k 7 0), .int (x k 5)])
  | 7 => .inl (cy 0, 8, .inl (fun i => if i < 8 then x k (6 + i) else 0))
  | 8 => .inr (4, [.int (x k 0), .int (x k 1), .int (x k 2)])
  | 9 => .inr (8, [.ref (ad 0 0 0), .ref (ad 8 10 0), .ref (ad 8 12 0), .ref (ad 7 4 0)])
  | 10 => .inr (3, [.ref (ad 8 11 0), .int (x 8 0), .int (x 8 1)])
  | 11 => .inl (cy 4, 6, .inr (.inr (.inr (.inr (fun i => some (ad (i + 1) 0 0))))))
  | 12 => .inr (7, [.ref (ad 9 13 0), .int (x 8 2)])
  | 13 => .inl (cy 0, 60, .inl (x 9))
  | 14 => .inr (9, [.ref (ad 10 15 0), .ref (ad 11 15 0), .ref (ad 12 16 0), .int (x 15 0), .ref (ad 13 17 0), .int (x 15 1), .int (x 15 2), .int (x 15 3), .int (x 15 4), .ref (ad 14 18 0), .int (x 15 5), .int (x 15 6), .int (x 15 7)])
  | 15 => .inl (cy 0, 96, .inl (x k))
  | 16 => .inl (cy 0, 576, .inl (x k))
  | 17 => .inl (cy 0, 60, .inl (x k))
  | 18 => .inl (cy 0, 93, .inl (x k))
  | 19 => .inl (cy 5, 1, .inr (.inl (fun i => (x k i).toInt64)))
  | d + 20 => .inr (5, [.int (x k (36 + 22 * d + 4 * j)), .int (x k (37 + 22 * d + 4 * j)), .int (x k (38 + 22 * d + 4 * j)), .int (x k (39 + 22 * d + 4 * j))])
/-- whose the place n of the block b is -/
def ow (b n : Nat) : Nat × Nat × Nat :=
  if b < 8 then
    if n < 3 then (b, 8, 0) else if n < 5 then (b, 0, 0) else if n = 5 then (b, 6, 0) else if n < 14 then (b, 7, 0) else if n < 30 then (b, 2, (n - 14) / 4)
    else if (n - 30) % 22 < 6 then (b, 4, (n - 30) / 22) else (b, (n - 30) / 22 + 20, ((n - 30) % 22 - 6) / 4)
  else if b = 8 then (if n < 2 then (8, 10, 0) else (8, 12, 0))
  else if b = 9 then (9, 13, 0)
  else if b = 12 then (12, 16, 0) else if b = 13 then (13, 17, 0) else if b = 14 then (14, 18, 0) else if b = 15 then (15, 14, 0) else if b = 16 then (16, 19, 0) else (b, 15, 0)
/-- the objects that there may be -/
def dm (k c j : Nat) : Prop := match c with
  | 0 => k < 7 ∧ j = 0
  | 1 => k < 7 ∧ j = 0
  | 2 => k < 7 ∧ j < 4
  | 3 => k < 7 ∧ j = 0
  | 4 => k < 8 ∧ j < 3 ∧ (k = 7 → j = 0)
  | 5 => k < 8 ∧ j < 3 ∧ (k = 7 → j = 0)
  | 6 => k < 7 ∧ j = 0
  | 7 => k < 7 ∧ j = 0
  | 8 => k < 7 ∧ j = 0
  | 9 => k = 8 ∧ j = 0
  | 10 => k = 8 ∧ j = 0
  | 11 => k = 8 ∧ j = 0
  | 12 => k = 8 ∧ j = 0
  | 13 => k = 9 ∧ j = 0
  | 14 => False
  | 15 => False
  | 16 => False
  | 17 => False
  | 18 => False
  | 19 => False
  | d + 20 => k < 8 ∧ d < 3 ∧ j < 4 ∧ (k = 7 → d = 0)
def dmB (k c j : Nat) : Bool := match c with
  | 0 => decide (k < 7) && decide (j = 0)
  | 1 => decide (k < 7) && decide (j = 0)
  | 2 => decide (k < 7) && decide (j < 4)
  | 3 => decide (k < 7) && decide (j = 0)
  | 4 => decide (k < 8) && decide (j < 3) && (decide (k ≠ 7) || decide (j = 0))
  | 5 => decide (k < 8) && decide (j < 3) && (decide (k ≠ 7) || decide (j = 0))
  | 6 => decide (k < 7) && decide (j = 0)
  | 7 => decide (k < 7) && decide (j = 0)
  | 8 => decide (k < 7) && decide (j = 0)
  | 9 => decide (k = 8) && decide (j = 0)
  | 10 => decide (k = 8) && decide (j = 0)
  | 11 => decide (k = 8) && decide (j = 0)
  | 12 => decide (k = 8) && decide (j = 0)
  | 13 => decide (k = 9) && decide (j = 0)
  | 14 => false
  | 15 => false
  | 16 => false
  | 17 => false
  | 18 => false
  | 19 => false
  | d + 20 => decide (k < 8) && decide (d < 3) && decide (j < 4) && (decide (k ≠ 7) || decide (d = 0))
theorem dm_iff (k c j : Nat) : dm k c j ↔ dmB k c j = true := by
  unfold dm dmB
  split <;> simp <;> omega
theorem dmB_idx0 : ((List.range 17).all fun k => (List.range 23).all fun c => (List.range 4).all fun j => !dmB k c j || idx.contains (k, c, j)) = true := by decide +kernel
theorem dmB_idx (k : Nat) (hk : k < 17) (c : Nat) (hc : c < 23) (j : Nat) (hj : j < 4) (h : dmB k c j = true) : (k, c, j) ∈ idx := by
  have h1 := List.all_eq_true.mp (List.all_eq_true.mp (List.all_eq_true.mp dmB_idx0 k (List.mem_range.mpr hk)) c (List.mem_range.mpr hc)) j (List.mem_range.mpr hj)
  rw [h] at h1
  simpa using h1
theorem idx_dmB : ∀ i ∈ idx, dmB i.1 i.2.1 i.2.2 = true := by decide +kernel
theorem idx_nd : va_nd ((List.range idx.length)) = true := by decide +kernel
theorem dm_lt {k c j : Nat} (h : dm k c j) : k < 17 ∧ c < 23 ∧ j < 4 := by
  unfold dm at h
  split at h <;> first | exact h.elim | omega
theorem dm_mem {k c j : Nat} (h : dm k c j) : (k, c, j) ∈ idx := dmB_idx k (dm_lt h).1 c (dm_lt h).2.1 j (dm_lt h).2.2 ((dm_iff k c j).mp h)
theorem mem_dm {k c j : Nat} (h : (k, c, j) ∈ idx) : dm k c j := (dm_iff k c j).mpr (idx_dmB _ h)
theorem ow_slot {b d s f : Nat} (hb : b < 8) (hd : d < 3) (hs : s < 4) (hf : f < 4) : ow b (36 + 22 * d + 4 * s + f) = (b, d + 20, s) := by
  have e1 : (36 + 22 * d + 4 * s + f - 30) / 22 = d := by omega
  have e2 : (36 + 22 * d + 4 * s + f - 30) % 22 = 6 + 4 * s + f := by omega
  have e3 : (6 + 4 * s + f - 6) / 4 = s := by omega
  unfold ow
  rw [if_pos hb, if_neg (by omega), if_neg (by omega), if_neg (by omega), if_neg (by omega), if_neg (by omega), e1, e2, if_neg (by omega), e3]
theorem ow_door {b d f : Nat} (hb : b < 8) (hd : d < 3) (hf : f < 6) : ow b (30 + 22 * d + f) = (b, 4, d) := by
  have e1 : (30 + 22 * d + f - 30) / 22 = d := by omega
  have e2 : (30 + 22 * d + f - 30) % 22 = f := by omega
  unfold ow
  rw [if_pos hb, if_neg (by omega), if_neg (by omega), if_neg (by omega), if_neg (by omega), if_neg (by omega), e1, e2, if_pos (by omega)]
theorem ow_fob {b j f : Nat} (hb : b < 8) (hj : j < 4) (hf : f < 4) : ow b (14 + 4 * j + f) = (b, 2, j) := by
  have e1 : (14 + 4 * j + f - 14) / 4 = j := by omega
  unfold ow
  rw [if_pos hb, if_neg (by omega), if_neg (by omega), if_neg (by omega), if_neg (by omega), if_pos (by omega), e1]
theorem ow_air {b i : Nat} (hb : b < 8) (hi : i < 8) : ow b (6 + i) = (b, 7, 0) := by
  unfold ow
  rw [if_pos hb, if_neg (by omega), if_neg (by omega), if_neg (by omega), if_pos (by omega)]
theorem ow_set {b f : Nat} (hb : b < 8) (hf : f < 3) : ow b f = (b, 8, 0) := by
  unfold ow
  rw [if_pos hb, if_pos hf]
theorem ow_sta {b f : Nat} (hb : b < 8) (h1 : 3 ≤ f) (hf : f < 5) : ow b f = (b, 0, 0) := by
  unfold ow
  rw [if_pos hb, if_neg (by omega), if_pos hf]
theorem ow_len {b : Nat} (hb : b < 8) : ow b 5 = (b, 6, 0) := by
  unfold ow
  rw [if_pos hb]
  rfl
theorem ow_h {n : Nat} (h : n < 2) : ow 8 n = (8, 10, 0) := by
  unfold ow
  rw [if_neg (by omega), if_pos rfl, if_pos h]
theorem ow_t : ow 8 2 = (8, 12, 0) := rfl
theorem ow_c (n : Nat) : ow 9 n = (9, 13, 0) := rfl
theorem ow_10 (n : Nat) : ow 10 n = (10, 15, 0) := rfl
theorem ow_11 (n : Nat) : ow 11 n = (11, 15, 0) := rfl
theorem ow_12 (n : Nat) : ow 12 n = (12, 16, 0) := rfl
theorem ow_13 (n : Nat) : ow 13 n = (13, 17, 0) := rfl
theorem ow_14 (n : Nat) : ow 14 n = (14, 18, 0) := rfl
theorem ow_15 (n : Nat) : ow 15 n = (15, 14, 0) := rfl
theorem ow_16 (n : Nat) : ow 16 n = (16, 19, 0) := rfl
theorem EE_congr {cy : Nat → ClassId} {ad : Ads} {x y : Mem} {k c j : Nat} (hd : dm k c j) (h : ∀ b n, ow b n = (k, c, j) → x b n = y b n) : EE cy ad x k c j = EE cy ad y k c j := by
  have f : ∀ b n, ow b n = (k, c, j) → y b n = x b n := fun b n q => (h b n q).symm
  unfold dm at hd
  split at hd <;> simp only [EE]
  · obtain ⟨hk, rfl⟩ := hd
    rw [f k 3 (ow_sta (by omega) (by omega) (by omega)), f k 4 (ow_sta (by omega) (by omega) (by omega))]
  · obtain ⟨hk, hj⟩ := hd
    rw [f k (14 + 4 * j) (ow_fob (f := 0) (by omega) hj (by omega)), f k (15 + 4 * j) (by rw [show 15 + 4 * j = 14 + 4 * j + 1 by omega]; exact ow_fob (by omega) hj (by omega)), f k (16 + 4 * j) (by rw [show 16 + 4 * j = 14 + 4 * j + 2 by omega]; exact ow_fob (by omega) hj (by omega)), f k (17 + 4 * j) (by rw [show 17 + 4 * j = 14 + 4 * j + 3 by omega]; exact ow_fob (by omega) hj (by omega))]
  · obtain ⟨hk, hj, -⟩ := hd
    rw [f k (30 + 22 * j) (ow_door (f := 0) hk hj (by omega)), f k (31 + 22 * j) (by rw [show 31 + 22 * j = 30 + 22 * j + 1 by omega]; exact ow_door hk hj (by omega)), f k (32 + 22 * j) (by rw [show 32 + 22 * j = 30 + 22 * j + 2 by omega]; exact ow_door hk hj (by omega)), f k (33 + 22 * j) (by rw [show 33 + 22 * j = 30 + 22 * j + 3 by omega]; exact ow_door hk hj (by omega)), f k (34 + 22 * j) (by rw [show 34 + 22 * j = 30 + 22 * j + 4 by omega]; exact ow_door hk hj (by omega)), f k (35 + 22 * j) (by rw [show 35 + 22 * j = 30 + 22 * j + 5 by omega]; exact ow_door hk hj (by omega))]
  · obtain ⟨hk, rfl⟩ := hd
    rw [f k 5 (ow_len (by omega))]
  · obtain ⟨hk, rfl⟩ := hd
    congr 4
    funext i
    by_cases hi : i < 8
    · rw [if_pos hi, if_pos hi, f k (6 + i) (ow_air (by omega) hi)]
    · rw [if_neg hi, if_neg hi]
  · obtain ⟨hk, rfl⟩ := hd
    rw [f k 0 (ow_set (by omega) (by omega)), f k 1 (ow_set (by omega) (by omega)), f k 2 (ow_set (by omega) (by omega))]
  · obtain ⟨rfl, rfl⟩ := hd
    rw [f 8 0 rfl, f 8 1 rfl]
  · obtain ⟨rfl, rfl⟩ := hd
    rw [f 8 2 rfl]
  · obtain ⟨rfl, rfl⟩ := hd
    rw [show y 9 = x 9 from funext fun n => f 9 n rfl]
  · exact hd.elim
  · exact hd.elim
  · exact hd.elim
  · exact hd.elim
  · exact hd.elim
  · exact hd.elim
  · rename_i d
    obtain ⟨hk, hd3, hj, -⟩ := hd
    rw [f k (36 + 22 * d + 4 * j) (ow_slot (f := 0) hk hd3 hj (by omega)), f k (37 + 22 * d + 4 * j) (by rw [show 37 + 22 * d + 4 * j = 36 + 22 * d + 4 * j + 1 by omega]; exact ow_slot hk hd3 hj (by omega)), f k (38 + 22 * d + 4 * j) (by rw [show 38 + 22 * d + 4 * j = 36 + 22 * d + 4 * j + 2 by omega]; exact ow_slot hk hd3 hj (by omega)), f k (39 + 22 * d + 4 * j) (by rw [show 39 + 22 * d + 4 * j = 36 + 22 * d + 4 * j + 3 by omega]; exact ow_slot hk hd3 hj (by omega))]
theorem EE_up {cy : Nat → ClassId} {ad : Ads} {x : Mem} {k c j b n : Nat} {v : Int32} (hd : dm k c j) (h : ow b n ≠ (k, c, j)) : EE cy ad (up x b n v) k c j = EE cy ad x k c j :=
  EE_congr hd fun b' n' q => up_ne x v (fun z => h (by rw [← q, z.1, z.2]))
/-- the world -/
def wl (cy : Nat → ClassId) (ad : Ads) (x : Mem) : va_W := idx.map (fun i => (ad i.1 i.2.1 i.2.2, EE cy ad x i.1 i.2.1 i.2.2))
def IJ (ad : Ads) : Prop := ∀ i ∈ idx, ∀ j ∈ idx, ad i.1 i.2.1 i.2.2 = ad j.1 j.2.1 j.2.2 → i = j
def AA (ad : Ads) (sz : Nat) : Nat → Prop := fun q => (∃ i ∈ idx, q = ad i.1 i.2.1 i.2.2) ∨ sz ≤ q
theorem idx_ndp : idx.Nodup := by decide +kernel
theorem wl_at {cy : Nat → ClassId} {ad : Ads} {x : Mem} {q0 : Nat} {q : Nat × va_E} (h : (wl cy ad x)[q0]? = some q) : ∃ i, idx[q0]? = some i ∧ i ∈ idx ∧ q = (ad i.1 i.2.1 i.2.2, EE cy ad x i.1 i.2.1 i.2.2) := by
  unfold wl at h
  rw [List.getElem?_map] at h
  cases hi : idx[q0]? with
  | none => rw [hi] at h; cases h
  | some i => rw [hi] at h; exact ⟨i, rfl, List.mem_of_getElem? hi, (Option.some.inj h).symm⟩
theorem wl_D {cy : Nat → ClassId} {ad : Ads} {x : Mem} {A : Nat → Prop} (hI : IJ ad) (hA : ∀ i ∈ idx, A (ad i.1 i.2.1 i.2.2)) : va_D A (wl cy ad x) := by
  refine ⟨fun a b p q hp hq e => ?_, fun k q hq => ?_⟩
  · obtain ⟨i, h1, h2, rfl⟩ := wl_at hp
    obtain ⟨j, h3, h4, rfl⟩ := wl_at hq
    have hij := hI i h2 j h4 e
    subst hij
    have hl := (List.getElem?_eq_some_iff.mp h1).1
    exact (List.getElem?_inj hl idx_ndp).mp (by rw [h1, h3])
  · obtain ⟨i, h1, h2, rfl⟩ := wl_at hq
    exact hA i h2
theorem wl_get {cy : Nat → ClassId} {ad : Ads} (x : Mem) {k c j : Nat} (h : dm k c j) : ∃ q0 : Nat, (wl cy ad x)[q0]? = some (ad k c j, EE cy ad x k c j) ∧ idx[q0]? = some (k, c, j) := by
  obtain ⟨q0, hq⟩ := List.getElem?_of_mem (dm_mem h)
  exact ⟨q0, by unfold wl; rw [List.getElem?_map, hq]; rfl, hq⟩
theorem wl_set {cy : Nat → ClassId} {ad : Ads} {x y : Mem} {k c j q0 : Nat} (hq : idx[q0]? = some (k, c, j)) (h : ∀ k' c' j', dm k' c' j' → (k', c', j') ≠ (k, c, j) → EE cy ad y k' c' j' = EE cy ad x k' c' j') : (wl cy ad x).set q0 (ad k c j, EE cy ad y k c j) = wl cy ad y := by
  have hl := (List.getElem?_eq_some_iff.mp hq).1
  apply List.ext_getElem?
  intro n
  by_cases hn : n = q0
  · subst hn
    rw [List.getElem?_set_self (by unfold wl; rw [List.length_map]; exact hl)]
    unfold wl
    rw [List.getElem?_map, hq]
    rfl
  · rw [List.getElem?_set_ne (Ne.symm hn)]
    unfold wl
    rw [List.getElem?_map, List.getElem?_map]
    cases hi : idx[n]? with
    | none => rfl
    | some i =>
      obtain ⟨k', c', j'⟩ := i
      have hne : (k', c', j') ≠ (k, c, j) := fun e => hn ((List.getElem?_inj (List.getElem?_eq_some_iff.mp hi).1 idx_ndp).mp (by rw [hi, hq, e]))
      show some (_, _) = some (_, _)
      rw [h k' c' j' (mem_dm (List.mem_of_getElem? hi)) hne]
/-- the words of private methods that a nest mate calls -/
def nestL : List (String × Nat × MethodName × String) := [("RollingFob$Fob", 24, yX8_counterBehind, "RollingFob"), ("RollingFob$Fob", 28, yX8_numberOf, "RollingFob"), ("RollingFob$Slot", 31, yX8_counterBehind, "RollingFob"), ("RollingFob$Slot", 35, yX8_numberOf, "RollingFob")]
def NW (U : State) : Prop := ∀ q ∈ nestL, va_Nw (.methodLinkNest q.1 q.2.1 q.2.2.1 q.2.2.2) U
theorem NW.warm {s U : State} (hW : s.WarmedH U.vm) (h : NW s) : NW U := fun q hq => va_Nw.warmM hW (h q hq)
theorem NW.same {u U : State} (hvm : u.vm = U.vm) (h : NW u) : NW U := fun q hq => va_Nw.same rfl hvm (h q hq)
abbrev tys (cy : Nat → ClassId) : List (ClassId × FieldType) := [(cy 0, .int), (cy 1, .object "RollingFob$Fob"), (cy 2, .object "RollingFob$Door"), (cy 3, .object "RollingFob$Slot"), (cy 4, .object "RollingFob$State")]
/-- what stands throughout a method's walk -/
def CX (p : Program) (s : State) (m : MethodId) (args : Array Value) (meth : Method) (c : Code) (cc : ByteArray) (nL : Nat) (own : String) (ret : Option FieldType) (D : va_G) (cy : Nat → ClassId) (ad : Ads) : Prop :=
  CallFix p m c cc nL s args TB own ∧ meth.sig.returnType = ret ∧ meth.locks = false ∧ va_K D vwCl (tys cy) s ∧ IJ ad ∧ NW s
/-- the judgement: at this place, with these locals and this stack, over any heap that G says, the end is reached -/
def RM (p : Program) (l : Launch) (e : Env) (R : Room) (s : State) (m : MethodId) (args : Array Value) (below : List Frame) (meth : Method) (c : Code) (nL : Nat) (A : Nat → Prop) (G : Heap → Prop) (nc ns : Nat) (Q : State → Prop) (pc : Nat) (ls : List (Nat × Value)) (st : List Value) : Prop :=
  ∀ (H : Heap) (locs : List Loc) (la : Array Slot), G H → va_S A s.heap H locs → lv_has la nL ls → W p l e R s m args below meth c H locs nc ns Q (F0 m pc la st)
abbrev GG (D : va_G) (cy : Nat → ClassId) (ad : Ads) (x : Mem) : Heap → Prop := va_P D vwCl (wl cy ad x)
theorem AA_in {ad : Ads} {sz : Nat} : ∀ i ∈ idx, AA ad sz (ad i.1 i.2.1 i.2.2) := fun i h => Or.inl ⟨i, h, rfl⟩
/-- a contract: an int, or a boolean, is answered -/
def Cti (l : Launch) (y : MethodName) (cc : ByteArray) (nL : Nat) (ret : Option FieldType) (rm : Room) (D : va_G) (cy : Nat → ClassId) (ad : Ads) (As : List Value) (x : Mem) (post : Int32 → Mem → Prop) : Prop :=
  ∀ sz, Met l y (.code y cc nL ret :: TB) rm (va_Pc As (fun U => U.heap.size = sz ∧ va_P D vwCl (wl cy ad x) U.heap ∧ va_K D vwCl (tys cy) U ∧ NW U)) (va_Qi post (fun z t => va_P D vwCl (wl cy ad z) t.heap) (AA ad sz)) 0 0 (AA ad sz)
def Ctv (l : Launch) (y : MethodName) (cc : ByteArray) (nL : Nat) (ret : Option FieldType) (rm : Room) (D : va_G) (cy : Nat → ClassId) (ad : Ads) (As : List Value) (x : Mem) (post : Mem → Prop) : Prop :=
  ∀ sz, Met l y (.code y cc nL ret :: TB) rm (va_Pc As (fun U => U.heap.size = sz ∧ va_P D vwCl (wl cy ad x) U.heap ∧ va_K D vwCl (tys cy) U ∧ NW U)) (va_Qv post (fun z t => va_P D vwCl (wl cy ad z) t.heap) (AA ad sz)) 0 0 (AA ad sz)
def Ctl (l : Launch) (y : MethodName) (cc : ByteArray) (nL : Nat) (ret : Option FieldType) (rm : Room) (D : va_G) (cy : Nat → ClassId) (ad : Ads) (As : List Value) (x : Mem) (post : Int64 → Mem → Prop) : Prop :=
  ∀ sz, Met l y (.code y cc nL ret :: TB) rm (va_Pc As (fun U => U.heap.size = sz ∧ va_P D vwCl (wl cy ad x) U.heap ∧ va_K D vwCl (tys cy) U ∧ NW U)) (va_Ql post (fun z t => va_P D vwCl (wl cy ad z) t.heap) (AA ad sz)) 0 0 (AA ad sz)
def Ctd (l : Launch) (y : MethodName) (cc : ByteArray) (nL : Nat) (ret : Option FieldType) (rm : Room) (D : va_G) (cy : Nat → ClassId) (ad : Ads) (As : List Value) (x : Mem) (post : UInt64 → Mem → Prop) : Prop :=
  ∀ sz, Met l y (.code y cc nL ret :: TB) rm (va_Pc As (fun U => U.heap.size = sz ∧ va_P D vwCl (wl cy ad x) U.heap ∧ va_K D vwCl (tys cy) U ∧ NW U)) (va_Qd post (fun z t => va_P D vwCl (wl cy ad z) t.heap) (AA ad sz)) 0 0 (AA ad sz)
/-- what a walk ends in -/
def QQ (Qc : (Nat → Prop) → Array Value → State → Outcome → State → Prop) (below : List Frame) (args : Array Value) (s : State) (ad : Ads) : State → Prop := MQ below (Qc (AA ad s.heap.size)) args s 0 0 (AA ad s.heap.size)
abbrev Qi (D : va_G) (cy : Nat → ClassId) (ad : Ads) (post : Int32 → Mem → Prop) : (Nat → Prop) → Array Value → State → Outcome → State → Prop := va_Qi post (fun z t => va_P D vwCl (wl cy ad z) t.heap)
abbrev Qv (D : va_G) (cy : Nat → ClassId) (ad : Ads) (post : Mem → Prop) : (Nat → Prop) → Array Value → State → Outcome → State → Prop := va_Qv post (fun z t => va_P D vwCl (wl cy ad z) t.heap)
abbrev Ql (D : va_G) (cy : Nat → ClassId) (ad : Ads) (post : Int64 → Mem → Prop) : (Nat → Prop) → Array Value → State → Outcome → State → Prop := va_Ql post (fun z t => va_P D vwCl (wl cy ad z) t.heap)
abbrev Qd (D : va_G) (cy : Nat → ClassId) (ad : Ads) (post : UInt64 → Mem → Prop) : (Nat → Prop) → Array Value → State → Outcome → State → Prop := va_Qd post (fun z t => va_P D vwCl (wl cy ad z) t.heap)
theorem rm_entry {l : Launch} {y : MethodName} {cc : ByteArray} {nL : Nat} {ret : Option FieldType} {rm : Room} {D : va_G} {cy : Nat → ClassId} {ad : Ads} {As : List Value} {x : Mem} {Qc : (Nat → Prop) → Array Value → State → Outcome → State → Prop} (hI : IJ ad) (hy : plainName y.cls = true) (hl : (lg_sl As).length ≤ nL)
    (body : ∀ p e s m args below meth c, CX p s m args meth c cc nL y.cls ret D cy ad → RM p l e rm s m args below meth c nL (AA ad s.heap.size) (GG D cy ad x) 0 0 (QQ Qc below args s ad) 0 (lv_args 0 As) []) (sz : Nat) :
    Met l y (.code y cc nL ret :: TB) rm (va_Pc As (fun U => U.heap.size = sz ∧ va_P D vwCl (wl cy ad x) U.heap ∧ va_K D vwCl (tys cy) U ∧ NW U)) (Qc (AA ad sz)) 0 0 (AA ad sz) := by
  refine Met.ofW (cc := cc) (maxL := nL) (ret := ret) hy rfl ?_
  intro p e s m args below meth c s₁ B hml hv
  obtain ⟨rfl, hsz, hP, hK, hN⟩ := hv
  subst hsz
  have hts := atoms_spec (ws := .code y cc nL ret :: TB) B.pre
  have hc : CX p s m As.toArray meth c cc nL y.cls ret D cy ad := ⟨⟨B.exec, B.bytes, hml, findClass_of_methodNamed B.named, fun w h => hts w (List.mem_cons_of_mem _ h)⟩, B.returns, B.notSynchronized, hK, hI, hN⟩
  have h := body p e s m As.toArray below meth c hc
  rw [lg_entry_eq]
  exact h s.heap [] _ hP va_S.rf (lv_entry As hl)
