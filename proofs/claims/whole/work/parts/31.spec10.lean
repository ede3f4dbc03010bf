/-! ===== the model: numbers in range, its answers as the same functions ===== -/
theorem toB_nI {p : Nat} (h : p < 2 ^ 32) : (nI p).toBitVec.toNat = p := Nat.mod_eq_of_lt h
theorem nI_xor {p q : Nat} (hp : p < 2 ^ 30) (hq : q < 2 ^ 30) : nI p ^^^ nI q = nI (p ^^^ q) := by
  have hx : p ^^^ q < 2 ^ 30 := Nat.xor_lt_two_pow hp hq
  apply Int32.toBitVec_inj.mp
  apply BitVec.eq_of_toNat_eq
  rw [Int32.toBitVec_xor, BitVec.toNat_xor, toB_nI (by omega), toB_nI (by omega), toB_nI (by omega)]
theorem nuM {p q : Nat} (hp : p < 2 ^ 30) (hq : q < 2 ^ 30) : (nI p ^^^ nI q) - (nI p ^^^ nI q) / 65536 * 65536 = (nI p ^^^ nI q) &&& 65535 := by
  have hx : p ^^^ q < 2 ^ 30 := Nat.xor_lt_two_pow hp hq
  rw [nI_xor hp hq]
  have e1 : nI (p ^^^ q) - nI (p ^^^ q) / 65536 * 65536 = nI ((p ^^^ q) % 65536) := pk_rem (d := 65536) (by omega) (by omega) (by omega)
  rw [e1]
  exact (pk_andN (n := p ^^^ q) (by omega) (m := 65535) 16 (by decide +kernel)).symm
theorem nu_n {a b : Nat} : nu (nI a) (nI b) = (nI (7919 * a + 40503 * b) ^^^ nI (31 * a + b)) &&& 65535 := by
  have e1 : nI b * 40503 = nI (b * 40503) := pk_mul b 40503
  have e2 : nI a * 7919 = nI (a * 7919) := pk_mul a 7919
  have e3 : nI a * 31 = nI (a * 31) := pk_mul a 31
  unfold nu
  rw [e1, e2, e3, nI_add, nI_add, show b * 40503 + a * 7919 = 7919 * a + 40503 * b by omega, show a * 31 + b = 31 * a + b by omega]
theorem irem10k {n : Nat} (h : n < 2 ^ 31) : nI n - nI n / 10000 * 10000 = nI (n % 10000) := pk_rem (d := 10000) h (by omega) (by omega)
theorem ctr_n {a t : Nat} (ha : a < 10000) (ht : t < 10000) : ctr (nI a) (nI t) = nI ((a + t) % 10000) := by
  unfold ctr
  rw [nI_add]
  exact irem10k (by omega)
theorem nx_n {a : Nat} (ha : a < 10000) : nx (nI a) = nI ((a + 1) % 10000) := by
  unfold nx
  have h : (9999 : Int32) ≤ nI a ↔ 9999 ≤ a := nI_leI (a := 9999) (b := a) (by omega) (by omega)
  by_cases h9 : 9999 ≤ a
  · have : a = 9999 := by omega
    rw [if_pos (h.mpr h9), this]
    rfl
  · rw [if_neg (fun q => h9 (h.mp q)), nI_1, Nat.mod_eq_of_lt (by omega)]
theorem nx_mod {a i : Nat} : nx (nI ((a + i) % 10000)) = nI ((a + (i + 1)) % 10000) := by
  rw [nx_n (Nat.mod_lt _ (by omega))]
  congr 1
  omega
theorem nI_nm1 {n : Nat} (h : n < 2 ^ 31) : ¬ nI n = -1 := fun q => by
  have h1 := nI_toInt h
  rw [q] at h1
  have h2 : (-1 : Int32).toInt = -1 := by decide
  omega
def inM (v lo hi : Int32) : Int32 := if v < lo then 0 else if hi < v then 0 else 1
theorem cp_st {x zm xx : Mem} {k o k2 o2 a p q : Nat} {v : Int32} (h : k2 ≠ k) (hz : zm = cpS x k o k2 o2 a) (hp : p = o + a) (hq : q = o2 + a) (hv : v = zm k2 q) (hx : xx = up zm k p v) : xx = cpS x k o k2 o2 (a + 1) := by
  subst hp hq
  rw [hx, hv, hz, cpS_b h]
  exact cpS_up h
theorem cp_0 {x : Mem} {k o k2 o2 : Nat} : x = cpS x k o k2 o2 0 := by
  funext b n
  unfold cpS
  rw [if_neg (by omega)]
/-- the past moves by one state -/
def shP (x : Mem) (i : Nat) : Mem := fun b n => if b = 12 ∧ n < i then x 12 (n + 96) else x b n
theorem shP_0 {x : Mem} : x = shP x 0 := by
  funext b n
  unfold shP
  rw [if_neg (by omega)]
theorem shP_st {x zm xx : Mem} {i : Nat} {v : Int32} (hz : zm = shP x i) (hv : v = zm 12 (i + 96)) (hx : xx = up zm 12 i v) : xx = shP x (i + 1) := by
  subst hz
  rw [hx, hv]
  funext b n
  unfold up shP
  by_cases hb : b = 12
  · subst hb
    by_cases hn : n = i
    · subst hn
      rw [if_pos ⟨rfl, rfl⟩, if_neg (by omega), if_pos (by omega)]
    · rw [if_neg (by omega)]
      by_cases h2 : n < i
      · rw [if_pos (by omega), if_pos (by omega)]
      · rw [if_neg (by omega), if_neg (by omega)]
  · rw [if_neg (by omega), if_neg (by omega), if_neg (by omega)]
/-- the state is kept by the model -/
def svM (x : Mem) (kq : Nat) : Mem := if kq = 6 then up (cpS (up (shP x 480) 15 0 (nI 5)) 12 480 10 0 96) 15 0 (nI 6) else up (cpS x 12 (96 * kq) 10 0 96) 15 0 (nI (kq + 1))
theorem svM_6 {x : Mem} : svM x 6 = up (cpS (up (shP x 480) 15 0 (nI 5)) 12 480 10 0 96) 15 0 (nI 6) := if_pos rfl
theorem svM_lt {x : Mem} {kq : Nat} (h : kq < 6) : svM x kq = up (cpS x 12 (96 * kq) 10 0 96) 15 0 (nI (kq + 1)) := if_neg (by omega)
/-- alike but for what the model's looking leaves -/
def M7 (u y : Mem) : Prop := ∀ b n, ¬ (b = 15 ∧ (n = 6 ∨ n = 7)) → y b n = u b n
theorem M7.rf (u : Mem) : M7 u u := fun _ _ _ => rfl
theorem M7.tr {u v w : Mem} (h1 : M7 u v) (h2 : M7 v w) : M7 u w := fun b n h => (h2 b n h).trans (h1 b n h)
theorem M7.at {u y : Mem} (h : M7 u y) {b n : Nat} (hb : b ≠ 15) : y b n = u b n := h b n (fun q => hb q.1)
theorem M7.blk {u y : Mem} (h : M7 u y) {b : Nat} (hb : b ≠ 15) : y b = u b := funext fun n => h.at hb
theorem M7.upq {u y : Mem} (h : M7 u y) {b n : Nat} {v v' : Int32} (hv : v' = v) : M7 (up u b n v) (up y b n v') := fun b' n' h' => by
  subst hv
  by_cases hq : b' = b ∧ n' = n
  · rw [hq.1, hq.2, up_s, up_s]
  · rw [up_ne _ _ hq, up_ne _ _ hq]; exact h b' n' h'
theorem M7.u6 {u y : Mem} (h : M7 u y) (v : Int32) : M7 u (up y 15 6 v) := fun b n h' => by
  rw [up_ne _ _ (fun q => h' ⟨q.1, Or.inl q.2⟩)]; exact h b n h'
theorem M7.u7 {u y : Mem} (h : M7 u y) (v : Int32) : M7 u (up y 15 7 v) := fun b n h' => by
  rw [up_ne _ _ (fun q => h' ⟨q.1, Or.inr q.2⟩)]; exact h b n h'
theorem up_blk {x y : Mem} {k k2 p : Nat} {v v' : Int32} (h : y k2 = x k) (hv : v' = v) : up y k2 p v' k2 = up x k p v k := by
  subst hv
  funext n
  by_cases hn : n = p
  · subst hn; rw [up_s, up_s]
  · rw [up_n _ _ hn, up_n _ _ hn, h]
theorem up_cm {x : Mem} {b n n' : Nat} {v v' : Int32} (h : n ≠ n') : up (up x b n v) b n' v' = up (up x b n' v') b n v := by
  funext b' m
  by_cases hb : b' = b
  · subst hb
    by_cases h1 : m = n
    · subst h1; rw [up_n _ _ h, up_s, up_s]
    · rw [up_n _ _ h1]
      by_cases h2 : m = n'
      · subst h2; rw [up_s, up_s]
      · rw [up_n _ _ h2, up_n _ _ h2, up_n _ _ h1]
  · rw [up_b _ _ _ hb, up_b _ _ _ hb, up_b _ _ _ hb, up_b _ _ _ hb]
theorem up_id {x : Mem} {b n : Nat} {v : Int32} (h : v = x b n) : up x b n v = x := by
  subst h
  funext b' m
  by_cases h1 : b' = b ∧ m = n
  · rw [h1.1, h1.2, up_s]
  · rw [up_ne _ _ h1]
theorem stpS_blk {x y : Mem} {k k2 d s mm : Nat} {num : Int32} (h : y k2 = x k) : stpS y k2 d s num mm = stpS x k d s num mm := by
  unfold stpS
  rw [h]
theorem mean_blk {x y : Mem} {k k2 d mm : Nat} {num : Int32} (h : y k2 = x k) : mean y k2 d num mm = mean x k d num mm := by
  unfold mean mt mt mt mt mt
  rw [stpS_blk h, stpS_blk h, stpS_blk h, stpS_blk h]
theorem hrR_blk {x y : Mem} {k k2 d mm : Nat} {num : Int32} (h : y k2 = x k) : hrR y k2 d k2 num mm = hrR x k d k num mm := by
  unfold hrR takS
  rw [mean_blk h, h]
theorem hrM_blk {x y : Mem} {k k2 d mm : Nat} {num : Int32} (h : y k2 = x k) : hrM y k2 d k2 num mm k2 = hrM x k d k num mm k := by
  unfold hrM takS
  rw [mean_blk h, h]
  split
  · exact up_blk h rfl
  · split
    · exact up_blk (up_blk h rfl) rfl
    · split
      · unfold opnM tak1
        exact up_blk (up_blk (up_blk (up_blk (up_blk h (by rw [h])) rfl) rfl) (by rw [up_blk (up_blk h (by rw [h])) rfl])) rfl
      · unfold tak0
        exact up_blk (up_blk h (by rw [h])) rfl
theorem M7.hrM {u y : Mem} (h : M7 u y) {k d mm : Nat} {num : Int32} (hk : k ≠ 15) : M7 (hrM u k d k num mm) (hrM y k d k num mm) := fun b n hb => by
  by_cases h1 : b = k
  · subst h1
    exact congrFun (hrM_blk (h.blk hk)) n
  · rw [hrM_b h1, hrM_b h1]; exact h b n hb
theorem mt_or {x : Mem} {k d mm : Nat} {num : Int32} : ∀ f s, s + f = 4 → mt x k d num mm f s = (4, 0) ∨ ∃ s' t, s' < 4 ∧ 1 ≤ t ∧ t ≤ mm ∧ mt x k d num mm f s = (s', t) ∧ x k (36 + 22 * d + 4 * s') ≠ 0
  | 0, _, _ => Or.inl rfl
  | f + 1, s, h => by
    unfold mt
    split
    · exact mt_or f (s + 1) (by omega)
    · rename_i h0
      refine Or.inr ⟨s, stpS x k d s num mm, by omega, by omega, stpS_le, rfl, fun q => h0 ?_⟩
      unfold stpS
      rw [if_pos q]
theorem mean_or (x : Mem) (k d mm : Nat) (num : Int32) : mean x k d num mm = (4, 0) ∨ ∃ s t, s < 4 ∧ 1 ≤ t ∧ t ≤ mm ∧ mean x k d num mm = (s, t) ∧ x k (36 + 22 * d + 4 * s) ≠ 0 := mt_or 4 0 rfl
theorem mt_y {x : Mem} {k d mm f s : Nat} {num : Int32} (h : ¬ stpS x k d s num mm = 0) : mt x k d num mm (f + 1) s = (s, stpS x k d s num mm) := by simp [mt, h]
theorem mt_n {x : Mem} {k d mm f s : Nat} {num : Int32} (h : stpS x k d s num mm = 0) : mt x k d num mm (f + 1) s = mt x k d num mm f (s + 1) := by simp [mt, h]
/-- a slot in order -/
def Sl (v : Nat → Int32) (d s : Nat) : Prop := v (36 + 22 * d + 4 * s) = 0 ∨ (v (36 + 22 * d + 4 * s) = 1 ∧ ∃ a b : Nat, a < 10000 ∧ b < 10000 ∧ v (37 + 22 * d + 4 * s) = nI a ∧ v (38 + 22 * d + 4 * s) = nI b ∧ (v (39 + 22 * d + 4 * s) = -1 ∨ ∃ c : Nat, c < 10000 ∧ v (39 + 22 * d + 4 * s) = nI c))
def RS (v : Nat → Int32) : Prop := ∀ d, d < 3 → ∀ s, s < 4 → Sl v d s
def RF (v : Nat → Int32) : Prop := ∀ j, j < 4 → ∃ a b : Nat, a < 10000 ∧ b < 10000 ∧ v (14 + 4 * j) = nI a ∧ v (15 + 4 * j) = nI b
theorem Sl.cg {u v : Nat → Int32} {d s : Nat} (h : Sl u d s) (e : ∀ i, i < 4 → v (36 + 22 * d + 4 * s + i) = u (36 + 22 * d + 4 * s + i)) : Sl v d s := by
  have e0 := e 0 (by omega)
  have e1 := e 1 (by omega)
  have e2 := e 2 (by omega)
  have e3 := e 3 (by omega)
  rw [show 36 + 22 * d + 4 * s + 1 = 37 + 22 * d + 4 * s by omega] at e1
  rw [show 36 + 22 * d + 4 * s + 2 = 38 + 22 * d + 4 * s by omega] at e2
  rw [show 36 + 22 * d + 4 * s + 3 = 39 + 22 * d + 4 * s by omega] at e3
  unfold Sl at h ⊢
  rw [e1, e2, e3, show v (36 + 22 * d + 4 * s) = u (36 + 22 * d + 4 * s) from e0]
  exact h
theorem tk_m1 {x : Mem} {k d s : Nat} {a w : Int32} (h : x k (39 + 22 * d + 4 * s) = -1) : takS x k d s a w ↔ a ≤ w := by
  unfold takS opnS
  rw [h]
  exact ⟨fun q => q.elim id (fun q => absurd rfl q.1), Or.inl⟩
theorem tk_nn {x : Mem} {k d s la nn t : Nat} {w : Int32} (hl : x k (38 + 22 * d + 4 * s) = nI la) (hn : x k (39 + 22 * d + 4 * s) = nI nn) (h1 : la < 10000) (h2 : nn < 10000) (ht : t < 10000) : takS x k d s (nI t) w ↔ nI t ≤ w ∨ nI ((nn + 1) % 10000) = nI ((la + t) % 10000) := by
  unfold takS opnS
  rw [hl, hn, ctr_n h1 ht, nx_n h2]
  exact ⟨fun q => q.elim Or.inl (fun q => Or.inr q.2.symm), fun q => q.elim Or.inl (fun q => Or.inr ⟨nI_nm1 (by omega), q.symm⟩)⟩
/-- what a door does, in its four ways -/
theorem hr_or (x : Mem) (k d mm : Nat) (num : Int32) :
    (¬ lockS (x k 2) (x k (31 + 22 * d)) = 0 ∧ hrR x k d k num mm = 3 ∧ hrM x k d k num mm = up x k (35 + 22 * d) (x k (35 + 22 * d) + 1)) ∨
    (lockS (x k 2) (x k (31 + 22 * d)) = 0 ∧ ((mean x k d num mm = (4, 0) ∧ hrR x k d k num mm = 2 ∧ hrM x k d k num mm = up (up x k (31 + 22 * d) (x k (31 + 22 * d) + 1)) k (34 + 22 * d) (x k (34 + 22 * d) + 1)) ∨
      ∃ s t, s < 4 ∧ 1 ≤ t ∧ t ≤ mm ∧ mean x k d num mm = (s, t) ∧ x k (36 + 22 * d + 4 * s) ≠ 0 ∧
        ((takS x k d s (nI t) (x k 0) ∧ hrR x k d k num mm = 0 ∧ hrM x k d k num mm = opnM (tak1 x k d s (nI t)) k d) ∨
         (¬ takS x k d s (nI t) (x k 0) ∧ hrR x k d k num mm = 1 ∧ hrM x k d k num mm = up (tak0 x k d s (nI t)) k (33 + 22 * d) (x k (33 + 22 * d) + 1))))) := by
  by_cases hL : lockS (x k 2) (x k (31 + 22 * d)) = 0
  · refine Or.inr ⟨hL, ?_⟩
    rcases mean_or x k d mm num with h | ⟨s, t, h1, h2, h3, h4, h5⟩
    · exact Or.inl ⟨h, hr_2 hL h⟩
    · refine Or.inr ⟨s, t, h1, h2, h3, h4, h5, ?_⟩
      by_cases hT : takS x k d s (nI t) (x k 0)
      · exact Or.inl ⟨hT, hr_0 hL h4 h1 hT⟩
      · exact Or.inr ⟨hT, hr_1 hL h4 h1 hT⟩
  · exact Or.inl ⟨hL, hr_3 hL⟩
/-- the slots stay in order -/
theorem RS.up {x : Mem} {k p : Nat} {v : Int32} (h : RS (x k)) (hp : ∀ d s i, d < 3 → s < 4 → i < 4 → p ≠ 36 + 22 * d + 4 * s + i) : RS (up x k p v k) := fun d hd s hs =>
  (h d hd s hs).cg fun i hi => up_n _ _ (fun q => hp d s i hd hs hi q.symm)
theorem dp_ne {d d' s' i : Nat} (f : Nat) (hd : d < 3) (hd' : d' < 3) (hs : s' < 4) (hi : i < 4) (hf : f < 6) : 30 + f + 22 * d ≠ 36 + 22 * d' + 4 * s' + i := by
  rcases (show d = 0 ∨ d = 1 ∨ d = 2 by omega) with rfl | rfl | rfl <;> rcases (show d' = 0 ∨ d' = 1 ∨ d' = 2 by omega) with rfl | rfl | rfl <;> omega
theorem sl_ne {d d' s s' i : Nat} (f : Nat) (hd : d < 3) (hd' : d' < 3) (hs : s < 4) (hs' : s' < 4) (hi : i < 4) (hf : f < 4) (h : ¬ (d' = d ∧ s' = s)) : 36 + 22 * d' + 4 * s' + i ≠ 36 + f + 22 * d + 4 * s := by
  rcases (show d = 0 ∨ d = 1 ∨ d = 2 by omega) with rfl | rfl | rfl <;> rcases (show d' = 0 ∨ d' = 1 ∨ d' = 2 by omega) with rfl | rfl | rfl <;> omega
theorem RS.hr {x : Mem} {k d mm : Nat} {num : Int32} (h : RS (x k)) (hd : d < 3) (hm : mm ≤ 500) : RS (hrM x k d k num mm k) := by
  rcases hr_or x k d mm num with ⟨-, -, e⟩ | ⟨-, ⟨-, -, e⟩ | ⟨s, t, hs, h1, ht, -, hne, ⟨-, -, e⟩ | ⟨-, -, e⟩⟩⟩ <;> rw [e]
  · exact h.up (fun d' s' i h1 h2 h3 => dp_ne 5 hd h1 h2 h3 (by omega))
  · exact RS.up (h.up (fun d' s' i h1 h2 h3 => dp_ne 1 hd h1 h2 h3 (by omega))) (fun d' s' i h1 h2 h3 => dp_ne 4 hd h1 h2 h3 (by omega))
  · unfold opnM
    refine RS.up (RS.up (RS.up ?_ (fun d' s' i h1 h2 h3 => dp_ne 0 hd h1 h2 h3 (by omega))) (fun d' s' i h1 h2 h3 => dp_ne 2 hd h1 h2 h3 (by omega))) (fun d' s' i h1 h2 h3 => dp_ne 1 hd h1 h2 h3 (by omega))
    rcases h d hd s hs with h0 | ⟨h0, a, b, ha, hb, h7, h8, h9⟩
    · exact absurd h0 hne
    intro d' hd' s' hs'
    by_cases hq : d' = d ∧ s' = s
    · obtain ⟨rfl, rfl⟩ := hq
      refine Or.inr ⟨?_, a, (b + t) % 10000, ha, Nat.mod_lt _ (by omega), ?_, ?_, Or.inl ?_⟩ <;> unfold tak1
      · rw [up_n _ _ (by omega), up_n _ _ (by omega)]; exact h0
      · rw [up_n _ _ (by omega), up_n _ _ (by omega)]; exact h7
      · rw [up_n _ _ (by omega), up_s, h8, ctr_n hb (by omega)]
      · rw [up_s]
    · refine (h d' hd' s' hs').cg fun i hi => ?_
      unfold tak1
      rw [up_n _ _ (sl_ne 3 hd hd' hs hs' hi (by omega) hq), up_n _ _ (sl_ne 2 hd hd' hs hs' hi (by omega) hq)]
  · refine RS.up ?_ (fun d' s' i h1 h2 h3 => dp_ne 3 hd h1 h2 h3 (by omega))
    rcases h d hd s hs with h0 | ⟨h0, a, b, ha, hb, h7, h8, h9⟩
    · exact absurd h0 hne
    intro d' hd' s' hs'
    by_cases hq : d' = d ∧ s' = s
    · obtain ⟨rfl, rfl⟩ := hq
      refine Or.inr ⟨?_, a, b, ha, hb, ?_, ?_, Or.inr ⟨(b + t) % 10000, Nat.mod_lt _ (by omega), ?_⟩⟩ <;> unfold tak0
      · rw [up_n _ _ (by omega)]; exact h0
      · rw [up_n _ _ (by omega)]; exact h7
      · rw [up_n _ _ (by omega)]; exact h8
      · rw [up_s, h8, ctr_n hb (by omega)]
    · refine (h d' hd' s' hs').cg fun i hi => ?_
      unfold tak0
      rw [up_n _ _ (sl_ne 3 hd hd' hs hs' hi (by omega) hq)]
theorem RS.snd {x : Mem} {k mm : Nat} {msk num : Int32} (h : RS (x k)) (hm : mm ≤ 500) : ∀ d, d ≤ 3 → RS ((sendS x k msk num mm d).2 k)
  | 0, _ => h
  | d + 1, hd => by
    unfold sendS
    split
    · exact (RS.snd h hm d (by omega)).hr (by omega) hm
    · exact RS.snd h hm d (by omega)
/-- opening, as the model writes it -/
theorem hrs_0 {x y : Mem} {k d s n : Nat} {t : Int32} {w : Int32} (hM : M7 x y) (hk : k ≠ 15) (hs : s < 4) (hn : nI n = ctr (x k (38 + 22 * d + 4 * s)) t)
    (hw : w = up (up (up (up y k (39 + 22 * d + 4 * s) (-1)) k (38 + 22 * d + 4 * s) (nI n)) k (30 + 22 * d) 1) k (31 + 22 * d) 0 k (32 + 22 * d) + 1) :
    M7 (opnM (tak1 x k d s t) k d) (up (up (up (up (up y k (39 + 22 * d + 4 * s) (-1)) k (38 + 22 * d + 4 * s) (nI n)) k (30 + 22 * d) 1) k (31 + 22 * d) 0) k (32 + 22 * d) w) := by
  rw [up_n _ _ (by omega), up_n _ _ (by omega), up_n _ _ (by omega), up_n _ _ (by omega), hM.at hk] at hw
  rw [up_cm (x := up (up (up y k (39 + 22 * d + 4 * s) (-1)) k (38 + 22 * d + 4 * s) (nI n)) k (30 + 22 * d) 1) (show 31 + 22 * d ≠ 32 + 22 * d by omega), up_cm (x := y) (show 39 + 22 * d + 4 * s ≠ 38 + 22 * d + 4 * s by omega)]
  unfold opnM tak1
  refine M7.upq (M7.upq (M7.upq (M7.upq (hM.upq hn) rfl) rfl) ?_) rfl
  rw [hw, up_n _ _ (by omega), up_n _ _ (by omega)]
theorem hrs_1 {x y : Mem} {k d s n : Nat} {t v0 v1 v2 w : Int32} (hM : M7 x y) (hk : k ≠ 15) (hs : s < 4) (hn : nI n = ctr (x k (38 + 22 * d + 4 * s)) t)
    (h0 : v0 = up y k (39 + 22 * d + 4 * s) (nI n) k (38 + 22 * d + 4 * s)) (h1 : v1 = up (up y k (39 + 22 * d + 4 * s) (nI n)) k (38 + 22 * d + 4 * s) v0 k (30 + 22 * d))
    (h2 : v2 = up (up (up y k (39 + 22 * d + 4 * s) (nI n)) k (38 + 22 * d + 4 * s) v0) k (30 + 22 * d) v1 k (31 + 22 * d))
    (hw : w = up (up (up (up y k (39 + 22 * d + 4 * s) (nI n)) k (38 + 22 * d + 4 * s) v0) k (30 + 22 * d) v1) k (31 + 22 * d) v2 k (33 + 22 * d) + 1) :
    M7 (up (tak0 x k d s t) k (33 + 22 * d) (x k (33 + 22 * d) + 1)) (up (up (up (up (up y k (39 + 22 * d + 4 * s) (nI n)) k (38 + 22 * d + 4 * s) v0) k (30 + 22 * d) v1) k (31 + 22 * d) v2) k (33 + 22 * d) w) := by
  rw [up_id h0] at h1 h2 hw ⊢
  rw [up_id h1] at h2 hw ⊢
  rw [up_id h2] at hw ⊢
  unfold tak0
  refine (hM.upq hn).upq ?_
  rw [hw, up_n _ _ (by omega), hM.at hk]
theorem inM_b {a b c0 : Int32} : inM a b c0 = 0 ∨ inM a b c0 = 1 := by
  unfold inM
  split
  · exact Or.inl rfl
  · split
    · exact Or.inl rfl
    · exact Or.inr rfl
def isSl (a b : Int32) : Int32 := if inM a 0 2 = 0 then 0 else if inM b 0 3 = 0 then 0 else 1
