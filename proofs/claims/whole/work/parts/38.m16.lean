/-! ===== the model's text ===== -/
theorem nEq {c n : Nat} {nn : Int32} (hn : nn = nI n) (hc : c < 2 ^ 20) (h2 : n < 2 ^ 20) : nI c = nn ↔ c = n := by rw [hn]; exact nI_eq (by omega) (by omega)
theorem nLt {c n : Nat} {nn : Int32} (hn : nn = nI n) (hc : c < 2 ^ 20) (h2 : n < 2 ^ 20) : nI c < nn ↔ c < n := by rw [hn]; exact nI_ltI (by omega) (by omega)
theorem nGt {c n : Nat} {nn : Int32} (hn : nn = nI n) (hc : c < 2 ^ 20) (h2 : n < 2 ^ 20) : nn < nI c ↔ n < c := by rw [hn]; exact nI_ltI (by omega) (by omega)
theorem nGe {c n : Nat} {nn : Int32} (hn : nn = nI n) (hc : c < 2 ^ 20) (h2 : n < 2 ^ 20) : nn ≤ nI c ↔ n ≤ c := by rw [hn]; exact nI_leI (by omega) (by omega)
def TXR (xt x : Mem) (tl : Nat) : Prop := tl ≤ 60 ∧ xt 8 2 = nI tl ∧ x 15 1 = nI tl ∧ ∀ i, i < tl → xt 9 i = x 13 i ∧ ∃ c : Nat, 33 ≤ c ∧ c ≤ 126 ∧ x 13 i = nI c
/-- alike but for what the reading of the text leaves -/
def MT (u y : Mem) : Prop := ∀ b n, b ≠ 14 → ¬ (b = 15 ∧ 3 ≤ n ∧ n ≤ 5) → y b n = u b n
theorem MT.rf (u : Mem) : MT u u := fun _ _ _ _ => rfl
theorem MT.tr {u v w : Mem} (h1 : MT u v) (h2 : MT v w) : MT u w := fun b n h h' => (h2 b n h h').trans (h1 b n h h')
theorem MT.u14 {u y : Mem} (h : MT u y) (n : Nat) (v : Int32) : MT u (up y 14 n v) := fun b m h1 h2 => by
  rw [up_b _ _ _ h1]; exact h b m h1 h2
theorem MT.u15 {u y : Mem} (h : MT u y) {n : Nat} (hn : 3 ≤ n ∧ n ≤ 5) (v : Int32) : MT u (up y 15 n v) := fun b m h1 h2 => by
  rw [up_ne _ _ (fun q => h2 ⟨q.1, by omega⟩)]; exact h b m h1 h2
theorem TXR.c {xt x0 x : Mem} {tl i : Nat} (h : TXR xt x0 tl) (hM : MT x0 x) (hi : i < tl) : ∃ c : Nat, 33 ≤ c ∧ c ≤ 126 ∧ x 13 i = nI c ∧ codeS xt (nI i) = nI c := by
  obtain ⟨h1, h2, h3, h4⟩ := h
  obtain ⟨h5, c, h6, h7, h8⟩ := h4 i hi
  refine ⟨c, h6, h7, (hM 13 i (by omega) (by omega)).trans h8, ?_⟩
  unfold codeS
  rw [h2, if_neg (fun q => absurd ((nLt (nn := 0) (n := 0) rfl (by omega) (by omega)).mp q) (by omega)), if_neg (fun q => absurd ((nGe (nn := nI tl) (n := tl) rfl (by omega) (by omega)).mp q) (by omega)), if_neg (fun q => absurd ((nGe (nn := 60) (n := 60) rfl (by omega) (by omega)).mp q) (by omega)), nI_clamp (by omega), h5, h8]
theorem TXR.t {xt x0 x : Mem} {tl : Nat} (h : TXR xt x0 tl) (hM : MT x0 x) : x 15 1 = nI tl := (hM 15 1 (by omega) (by omega)).trans h.2.2.1
theorem inM_or {c lo hi : Nat} (hc : c ≤ 126) (hl : lo < 2 ^ 20) (hh : hi < 2 ^ 20) : (inM (nI c) (nI lo) (nI hi) = 1 ∧ lo ≤ c ∧ c ≤ hi) ∨ (inM (nI c) (nI lo) (nI hi) = 0 ∧ (c < lo ∨ hi < c)) := by
  have h1 := nI_ltI (a := c) (b := lo) (by omega) (by omega)
  have h2 := nI_ltI (a := hi) (b := c) (by omega) (by omega)
  unfold inM
  by_cases q1 : c < lo
  · rw [if_pos (h1.mpr q1)]; exact Or.inr ⟨rfl, Or.inl q1⟩
  · rw [if_neg (fun q => q1 (h1.mp q))]
    by_cases q2 : hi < c
    · rw [if_pos (h2.mpr q2)]; exact Or.inr ⟨rfl, Or.inr q2⟩
    · rw [if_neg (fun q => q2 (h2.mp q))]; exact Or.inl ⟨rfl, by omega, by omega⟩
/-- the flag: it stands before the end -/
def flg (p tl : Nat) : Int32 := if p < tl then 1 else 0
def OKE (e : Int32) : Prop := e = 5 ∨ e = 6 ∨ e = 7
theorem exp_0 {c : Nat} (hc : c ≤ 126) : expS 0 (nI c) = if c = 99 then 3 else if c = 102 then 1 else if c = 114 then 2 else 8 := by
  unfold expS inPartS
  rw [if_pos rfl]
  simp only [nEq (nn := 99) (n := 99) rfl (show c < 2 ^ 20 by omega) (by omega), nEq (nn := 102) (n := 102) rfl (show c < 2 ^ 20 by omega) (by omega), nEq (nn := 114) (n := 114) rfl (show c < 2 ^ 20 by omega) (by omega)]
theorem exp_d {c hh : Nat} {e e' hv : Int32} (he : (e = 1 ∧ hh = 51 ∧ e' = 4) ∨ (e = 2 ∧ hh = 55 ∧ e' = 4) ∨ (e = 3 ∧ hh = 50 ∧ e' = 7)) (hc : c ≤ 126) : expS e (nI c) = if 48 ≤ c ∧ c ≤ hh then e' else 8 := by
  have h1 := nLt (nn := 48) (n := 48) rfl (show c < 2 ^ 20 by omega) (by omega)
  have h2 := nGt (nn := 51) (n := 51) rfl (show c < 2 ^ 20 by omega) (by omega)
  have h3 := nGt (nn := 55) (n := 55) rfl (show c < 2 ^ 20 by omega) (by omega)
  have h4 := nGt (nn := 50) (n := 50) rfl (show c < 2 ^ 20 by omega) (by omega)
  rcases he with ⟨rfl, rfl, rfl⟩ | ⟨rfl, rfl, rfl⟩ | ⟨rfl, rfl, rfl⟩ <;> simp only [expS, h1, h2, h3, h4] <;> simp <;> (repeat' split) <;> first | rfl | omega
theorem inSet_n {c lo : Nat} {lov : Int32} (hl : lov = nI lo) (hlo : lo ≤ 3) (hc : 33 ≤ c ∧ c ≤ 126) : inSetS (nI c) lov = if 48 + lo ≤ c ∧ c ≤ 50 then nI (5 + (c - 48)) else 8 := by
  subst hl
  unfold inSetS
  by_cases h48 : 48 ≤ c
  · have e : nI c - 48 = nI (c - 48) := pk_sub (a := c) (b := 48) h48
    have h1 := nI_ltI (a := c - 48) (b := lo) (by omega) (by omega)
    have h2 := nI_leI (a := 3) (b := c - 48) (by omega) (by omega)
    have h2' : (3 : Int32) ≤ nI (c - 48) ↔ 3 ≤ c - 48 := h2
    rw [e]
    by_cases q1 : c - 48 < lo
    · rw [if_pos (h1.mpr q1), if_neg (by omega)]
    · rw [if_neg (fun q => q1 (h1.mp q))]
      by_cases q2 : 3 ≤ c - 48
      · rw [if_pos (h2'.mpr q2), if_neg (by omega)]
      · rw [if_neg (fun q => q2 (h2'.mp q)), if_pos (by omega)]
        exact nI_add 5 (c - 48)
  · have hneg : nI c - 48 < nI lo := by
      have h3 : nI c - nI 48 < 0 := pk_sneg (a := c) (b := 48) (by omega) (by omega)
      have h4 : (0 : Int32) ≤ nI lo := nI_pos' (by omega)
      exact Int32.lt_of_lt_of_le h3 h4
    rw [if_pos hneg, if_neg (by omega)]
theorem exp_4 {c : Nat} (hc : 33 ≤ c ∧ c ≤ 126) : expS 4 (nI c) = if c = 45 then 7 else if 48 ≤ c ∧ c ≤ 50 then nI (5 + (c - 48)) else 8 := by
  have h1 := nEq (nn := 45) (n := 45) rfl (show c < 2 ^ 20 by omega) (by omega)
  unfold expS
  simp only [show ¬ (4 : Int32) = 0 by decide, show ¬ (4 : Int32) = 1 by decide, show ¬ (4 : Int32) = 2 by decide, show ¬ (4 : Int32) = 3 by decide, if_false, if_true, h1]
  by_cases h : c = 45
  · rw [if_pos h, if_pos h]
  · rw [if_neg h, if_neg h]
    exact inSet_n (lo := 0) rfl (by omega) hc
theorem exp_s {c d : Nat} (hd : d ≤ 2) (hc : 33 ≤ c ∧ c ≤ 126) : expS (nI (5 + d)) (nI c) = if c = 59 then 0 else if 49 + d ≤ c ∧ c ≤ 50 then nI (5 + (c - 48)) else 8 := by
  have h1 := nEq (nn := 59) (n := 59) rfl (show c < 2 ^ 20 by omega) (by omega)
  have hl : ∀ dd : Nat, dd = d → inSetS (nI c) (nI (5 + dd) - 5 + 1) = if 49 + d ≤ c ∧ c ≤ 50 then nI (5 + (c - 48)) else 8 := fun dd h => by
    subst h
    have e : nI (5 + dd) - 5 + 1 = nI (dd + 1) := by
      have e1 : nI (5 + dd) - 5 = nI (5 + dd - 5) := pk_sub (a := 5 + dd) (b := 5) (by omega)
      rw [e1, show 5 + dd - 5 = dd by omega]
      exact nI_1 dd
    rw [inSet_n (lo := dd + 1) e (by omega) hc]
    by_cases q : 48 + (dd + 1) ≤ c ∧ c ≤ 50
    · rw [if_pos q, if_pos (by omega)]
    · rw [if_neg q, if_neg (by omega)]
  have hl := hl d rfl
  have hne : ∀ (k : Nat) (kk : Int32), kk = nI k → k < 5 ∨ k = 8 → ¬ nI (5 + d) = kk := fun k kk hkk hk q => absurd ((nI_eq (a := 5 + d) (b := k) (by omega) (by omega)).mp (q.trans hkk)) (by omega)
  unfold expS
  rw [if_neg (hne 0 0 rfl (by omega)), if_neg (hne 1 1 rfl (by omega)), if_neg (hne 2 2 rfl (by omega)), if_neg (hne 3 3 rfl (by omega)), if_neg (hne 4 4 rfl (by omega)), if_neg (hne 8 8 rfl (by omega)), hl]
  simp only [h1]
theorem feS_app {x : Mem} : ∀ (a b : Nat) (e : Int32) (i : Nat), feS x (a + b) e i = feS x b (feS x a e i) (i + a)
  | 0, b, e, i => by rw [Nat.zero_add]; rfl
  | a + 1, b, e, i => by
    rw [show a + 1 + b = (a + b) + 1 by omega]
    show feS x (a + b) (expS e (codeS x (nI i))) (i + 1) = feS x b (feS x a (expS e (codeS x (nI i))) (i + 1)) (i + (a + 1))
    rw [feS_app a b, show i + 1 + a = i + (a + 1) by omega]
theorem feS_snoc {x : Mem} {a : Nat} {e : Int32} {i : Nat} : feS x (a + 1) e i = expS (feS x a e i) (codeS x (nI (i + a))) := feS_app a 1 e i
def mk1 (x : Mem) (v : Int32) (i : Nat) : Int32 := if digS x (nI i) < 0 then v else if 3 ≤ digS x (nI i) then v else v ||| (1 <<< (digS x (nI i) &&& 31))
theorem mkS_snoc {x : Mem} : ∀ (f i : Nat) (v : Int32), mkS x (f + 1) i v = mk1 x (mkS x f i v) (i + f)
  | 0, i, v => rfl
  | f + 1, i, v => by
    show mkS x (f + 1) (i + 1) (mk1 x v i) = mk1 x (mkS x f (i + 1) (mk1 x v i)) (i + (f + 1))
    rw [mkS_snoc f, show i + 1 + f = i + (f + 1) by omega]
theorem dig_n {x : Mem} {i c : Nat} (h : codeS x (nI i) = nI c) (h1 : 48 ≤ c) (h2 : c ≤ 57) : digS x (nI i) = nI (c - 48) := by
  unfold digS
  rw [h, if_neg (fun q => absurd ((nLt (nn := 48) (n := 48) rfl (by omega) (by omega)).mp q) (by omega)), if_neg (fun q => absurd ((nGt (nn := 57) (n := 57) rfl (by omega) (by omega)).mp q) (by omega))]
  exact pk_sub (a := c) (b := 48) h1
theorem dig_45 {x : Mem} {i : Nat} (h : codeS x (nI i) = nI 45) : digS x (nI i) = -1 := by
  unfold digS
  rw [h]
  exact if_pos (by decide)
theorem mk1_d {x : Mem} {i c : Nat} {v : Int32} (h : codeS x (nI i) = nI c) (h1 : 48 ≤ c) (h2 : c ≤ 50) : mk1 x v i = v ||| (1 <<< (nI (c - 48) &&& 31)) := by
  unfold mk1
  rw [dig_n h h1 (by omega), if_neg (nI_pos (by omega)), if_neg (fun q => absurd ((nGe (nn := 3) (n := 3) rfl (by omega) (by omega)).mp q) (by omega))]
/-- the set of doors, read -/
def DoorsOk (x0 : Mem) (tl p : Nat) (q : Nat) : Prop := p < q ∧ q ≤ tl ∧ (∃ d, d ≤ 2 ∧ feS x0 (q - p) 4 p = nI (5 + d) ∧ (q < tl → ∃ c : Nat, 33 ≤ c ∧ c ≤ 126 ∧ codeS x0 (nI q) = nI c ∧ ¬ (49 + d ≤ c ∧ c ≤ 50))) ∧ ∀ n, p ≤ n → n < q → codeS x0 (nI n) ≠ 59
theorem ar_mem {x : Mem} {n : Nat} {v v' a b : Int32} : up (up (up (up x 14 n v) 15 3 a) 14 n v') 15 3 b = up (up x 14 n v') 15 3 b := by
  funext b' m
  by_cases h1 : b' = 15 ∧ m = 3
  · rw [h1.1, h1.2, up_s, up_s]
  · rw [up_ne _ _ h1, up_ne _ _ h1]
    by_cases h2 : b' = 14 ∧ m = n
    · rw [h2.1, h2.2, up_s, up_s]
    · rw [up_ne _ _ h2, up_ne _ _ h2, up_ne _ _ h1, up_ne _ _ h2]
abbrev rm_X9_isAt : Room := { frames := 1, cells := 0, slots := 0, locals := 22 }

abbrev rm_X9_stops : Room := { frames := 0, cells := 0, slots := 0, locals := 0 }

abbrev rm_X9_isDigit : Room := { frames := 2, cells := 0, slots := 0, locals := 44 }

abbrev rm_X9_areDoors : Room := { frames := 2, cells := 0, slots := 0, locals := 44 }

abbrev rm_X9_isPart : Room := { frames := 3, cells := 0, slots := 0, locals := 65 }

abbrev rm_X9_isText : Room := { frames := 4, cells := 0, slots := 0, locals := 86 }

abbrev rm_X9_firstError : Room := { frames := 5, cells := 0, slots := 0, locals := 107 }

abbrev rm_X9_does : Room := { frames := 6, cells := 0, slots := 0, locals := 150 }

abbrev rm_X9_play : Room := { frames := 7, cells := 0, slots := 0, locals := 173 }

set_option maxHeartbeats 4000000 in
set_option maxRecDepth 100000 in
theorem c_X9_isAt {l : Launch} {D : va_G} {cy : Nat → ClassId} {ad : Ads} (hI : IJ ad) (x : Mem) (x0 xt : Mem) {pp tl : Nat} (hT : TXR xt x0 tl) (hM : MT x0 x) (hp : x 15 3 = nI pp) (hpl : pp ≤ tl) {lo hi : Nat} (hlo : lo < 2 ^ 20) (hhi : hi < 2 ^ 20) : Cti l yX9_isAt cX9_isAt 3 (some .boolean) rm_X9_isAt D cy ad [.ref (ad 15 14 0), .int (nI (lo)), .int (nI (hi))] x (fun r y => ((r = 1 ∧ pp < tl ∧ ∃ c : Nat, 33 ≤ c ∧ c ≤ 126 ∧ codeS xt (nI pp) = nI c ∧ lo ≤ c ∧ c ≤ hi) ∨ (r = 0 ∧ (pp < tl → ∃ c : Nat, 33 ≤ c ∧ c ≤ 126 ∧ codeS xt (nI pp) = nI c ∧ (c < lo ∨ hi < c)))) ∧ y = x) := by
  have h60 : tl ≤ 60 := hT.1
  refine rm_entry (Qc := Qi D cy ad (fun r y => ((r = 1 ∧ pp < tl ∧ ∃ c : Nat, 33 ≤ c ∧ c ≤ 126 ∧ codeS xt (nI pp) = nI c ∧ lo ≤ c ∧ c ≤ hi) ∨ (r = 0 ∧ (pp < tl → ∃ c : Nat, 33 ≤ c ∧ c ≤ 126 ∧ codeS xt (nI pp) = nI c ∧ (c < lo ∨ hi < c)))) ∧ y = x)) hI (by decide) (Nat.le_of_ble_eq_true rfl) ?_
  intro p e s m args below meth c hc
  show RM _ _ _ _ _ _ _ _ _ _ _ _ _ _ _ _ _ [(0, .ref (ad 15 14 0)), (1, .int (nI (lo))), (2, .int (nI (hi)))] []
  refine rm_aload_n hc dX9_isAt_0 rfl rfl ?_
  refine rm_geti hc dX9_isAt_1 fl_X9_117 dm_14 rfl rfl (fun v_1 e_1 => ?_)
  obtain rfl : v_1 = (nI (pp)) := e_1.trans hp
  refine rm_aload_n hc dX9_isAt_4 rfl rfl ?_
  refine rm_geti hc dX9_isAt_5 fl_X9_114 dm_14 rfl rfl (fun v_2 e_2 => ?_)
  obtain rfl : v_2 = (nI (tl)) := e_2.trans (hT.t hM)
  rcases Nat.lt_or_ge pp tl with z_3 | z_3
  · --
    refine rm_icmp_ge (tgt := 32) hc dX9_isAt_8 (by decide) (fun h => absurd h (fun h2 => absurd ((nI_leI (a := tl) (b := pp) (by omega) (by omega)).mp h2) (by omega))) (fun _ => ?_)
    refine rm_aload_n hc dX9_isAt_11 rfl rfl ?_
    refine rm_get hc dX9_isAt_12 fl_X9_19 dm_14 rfl rfl ?_
    refine rm_aload_n hc dX9_isAt_15 rfl rfl ?_
    refine rm_geti hc dX9_isAt_16 fl_X9_117 dm_14 rfl rfl (fun v_4 e_4 => ?_)
    obtain rfl : v_4 = (nI (pp)) := e_4.trans hp
    refine rm_iald (i := pp) hc dX9_isAt_19 dm_17 rfl (by omega) (by decide) rfl (fun v_5 e_5 => ?_)
    obtain ⟨c, hc33, hc126, hc13, hcc⟩ := hT.c hM (i := pp) (by omega)
    obtain rfl : v_5 = nI c := e_5.trans hc13
    refine rm_iload_n hc dX9_isAt_20 rfl rfl ?_
    refine rm_iload_n hc dX9_isAt_21 rfl rfl ?_
    refine rm_calliS (As := [.int (nI (c)), .int (nI (lo)), .int (nI (hi))]) (rest := []) hc dX9_isAt_22 (c_X9_in hI x (nI (c)) (nI (lo)) (nI (hi))) ms_X9_29 (hn := rfl) (hst := rfl) (hw := Nat.le_of_ble_eq_true rfl) (hR := ⟨⟨rfl, rfl⟩, Nat.le_of_ble_eq_true rfl, Nat.le_of_ble_eq_true rfl⟩) (hnc := ⟨Nat.zero_le _, Nat.zero_le _⟩) (fun r_6 y_6 h_6 => ?_)
    obtain ⟨e_6, ey_6⟩ := h_6
    obtain rfl := ey_6.symm
    rcases inM_or (c := c) (lo := lo) (hi := hi) (by omega) (by omega) (by omega) with ⟨hin, hl1, hl2⟩ | ⟨hin, hl1⟩
    · --
      obtain rfl : r_6 = 1 := e_6.trans hin
      refine rm_if_eq (tgt := 32) hc dX9_isAt_25 (by decide) (fun h => absurd h (by decide)) (fun _ => ?_)
      refine rm_iconst (v := 1) hc dX9_isAt_28 (by decide) ?_
      refine rm_goto (tgt := 33) hc dX9_isAt_29 (by decide) ?_
      exact rm_zret hc dX9_isAt_33 rfl ⟨Or.inl ⟨rfl, by omega, c, hc33, hc126, hcc, hl1, hl2⟩, rfl⟩
    · --
      obtain rfl : r_6 = 0 := e_6.trans hin
      refine rm_if_eq (tgt := 32) hc dX9_isAt_25 (by decide) (fun _ => ?_) (fun h => absurd (by decide) h)
      refine rm_iconst (v := 0) hc dX9_isAt_32 (by decide) ?_
      exact rm_zret hc dX9_isAt_33 rfl ⟨Or.inr ⟨rfl, fun _ => ⟨c, hc33, hc126, hcc, hl1⟩⟩, rfl⟩
  · --
    refine rm_icmp_ge (tgt := 32) hc dX9_isAt_8 (by decide) (fun _ => ?_) (fun h => absurd ((nI_leI (a := tl) (b := pp) (by omega) (by omega)).mpr (by omega)) h)
    refine rm_iconst (v := 0) hc dX9_isAt_32 (by decide) ?_
    exact rm_zret hc dX9_isAt_33 rfl ⟨Or.inr ⟨rfl, fun h => absurd h (by omega)⟩, rfl⟩

set_option maxHeartbeats 4000000 in
set_option maxRecDepth 100000 in
theorem c_X9_stops {l : Launch} {D : va_G} {cy : Nat → ClassId} {ad : Ads} (hI : IJ ad) (x : Mem) {pp tl : Nat} (hp : x 15 3 = nI pp) (htl : x 15 1 = nI tl) (h60 : tl ≤ 60) (hpl : pp ≤ tl) : Cti l yX9_stops cX9_stops 1 (some .boolean) rm_X9_stops D cy ad [.ref (ad 15 14 0)] x (fun r y => r = 0 ∧ y = up x 15 4 (flg pp tl)) := by
  refine rm_entry (Qc := Qi D cy ad (fun r y => r = 0 ∧ y = up x 15 4 (flg pp tl))) hI (by decide) (Nat.le_of_ble_eq_true rfl) ?_
  intro p e s m args below meth c hc
  show RM _ _ _ _ _ _ _ _ _ _ _ _ _ _ _ _ _ [(0, .ref (ad 15 14 0))] []
  refine rm_aload_n hc dX9_stops_0 rfl rfl ?_
  refine rm_aload_n hc dX9_stops_1 rfl rfl ?_
  refine rm_geti hc dX9_stops_2 fl_X9_117 dm_14 rfl rfl (fun v_1 e_1 => ?_)
  obtain rfl : v_1 = (nI (pp)) := e_1.trans hp
  refine rm_aload_n hc dX9_stops_5 rfl rfl ?_
  refine rm_geti hc dX9_stops_6 fl_X9_114 dm_14 rfl rfl (fun v_2 e_2 => ?_)
  obtain rfl : v_2 = (nI (tl)) := e_2.trans htl
  rcases Nat.lt_or_ge pp tl with z_3 | z_3
  · --
    refine rm_icmp_ge (tgt := 16) hc dX9_stops_9 (by decide) (fun h => absurd h (fun h2 => absurd ((nI_leI (a := tl) (b := pp) (by omega) (by omega)).mp h2) (by omega))) (fun _ => ?_)
    refine rm_iconst (v := 1) hc dX9_stops_12 (by decide) ?_
    refine rm_goto (tgt := 17) hc dX9_stops_13 (by decide) ?_
    refine rm_put hc dX9_stops_17 fl_X9_120 dm_14 rfl (Nat.le_of_ble_eq_true rfl) ft_9_8 rfl rfl so_14_8 (rm_nm (fun x_4 ex_4 => ?_))
    refine rm_iconst (v := 0) hc dX9_stops_20 (by decide) ?_
    exact rm_zret hc dX9_stops_21 rfl ⟨rfl, by rw [ex_4]; unfold flg; first | rw [if_pos (by omega)] | rw [if_neg (by omega)]⟩
  · --
    refine rm_icmp_ge (tgt := 16) hc dX9_stops_9 (by decide) (fun _ => ?_) (fun h => absurd ((nI_leI (a := tl) (b := pp) (by omega) (by omega)).mpr (by omega)) h)
    refine rm_iconst (v := 0) hc dX9_stops_16 (by decide) ?_
    refine rm_put hc dX9_stops_17 fl_X9_120 dm_14 rfl (Nat.le_of_ble_eq_true rfl) ft_9_8 rfl rfl so_14_8 (rm_nm (fun x_5 ex_5 => ?_))
    refine rm_iconst (v := 0) hc dX9_stops_20 (by decide) ?_
    exact rm_zret hc dX9_stops_21 rfl ⟨rfl, by rw [ex_5]; unfold flg; first | rw [if_pos (by omega)] | rw [if_neg (by omega)]⟩

set_option maxHeartbeats 4000000 in
set_option maxRecDepth 100000 in
theorem c_X9_isDigit {l : Launch} {D : va_G} {cy : Nat → ClassId} {ad : Ads} (hI : IJ ad) (x : Mem) (x0 xt : Mem) {pp tl tq : Nat} (hT : TXR xt x0 tl) (hM : MT x0 x) (hp : x 15 3 = nI pp) (hpl : pp ≤ tl) (htq : x 15 5 = nI tq) (h3 : 3 * tq ≤ pp) {hh : Nat} (hhh : hh ≤ 57) : Cti l yX9_isDigit cX9_isDigit 2 (some .boolean) rm_X9_isDigit D cy ad [.ref (ad 15 14 0), .int (nI (hh))] x (fun r y => (r = 1 ∧ pp < tl ∧ ∃ c : Nat, 48 ≤ c ∧ c ≤ hh ∧ codeS xt (nI pp) = nI c ∧ y = up (up x 14 (1 + 3 * tq) (nI (c - 48))) 15 3 (nI (pp + 1))) ∨ (r = 0 ∧ (pp < tl → ∃ c : Nat, 33 ≤ c ∧ c ≤ 126 ∧ codeS xt (nI pp) = nI c ∧ (c < 48 ∨ hh < c)) ∧ y = up x 15 4 (flg pp tl))) := by
  have h60 : tl ≤ 60 := hT.1
  refine rm_entry (Qc := Qi D cy ad (fun r y => (r = 1 ∧ pp < tl ∧ ∃ c : Nat, 48 ≤ c ∧ c ≤ hh ∧ codeS xt (nI pp) = nI c ∧ y = up (up x 14 (1 + 3 * tq) (nI (c - 48))) 15 3 (nI (pp + 1))) ∨ (r = 0 ∧ (pp < tl → ∃ c : Nat, 33 ≤ c ∧ c ≤ 126 ∧ codeS xt (nI pp) = nI c ∧ (c < 48 ∨ hh < c)) ∧ y = up x 15 4 (flg pp tl)))) hI (by decide) (Nat.le_of_ble_eq_true rfl) ?_
  intro p e s m args below meth c hc
  show RM _ _ _ _ _ _ _ _ _ _ _ _ _ _ _ _ _ [(0, .ref (ad 15 14 0)), (1, .int (nI (hh)))] []
  refine rm_aload_n hc dX9_isDigit_0 rfl rfl ?_
  refine rm_bipush (v := 48) hc dX9_isDigit_1 (by decide) ?_
  refine rm_iload_n hc dX9_isDigit_3 rfl rfl ?_
  refine rm_calliV (As := [.int 48, .int (nI (hh))]) (rest := []) hc dX9_isDigit_4 (c_X9_isAt hI x x0 xt (pp := pp) (tl := tl) (lo := 48) (hi := hh) hT hM hp (by omega) (by omega) (by omega)) mv_X9_124 dm_14 rfl rfl (hn := rfl) (hst := rfl) (hw := Nat.le_of_ble_eq_true rfl) (hR := ⟨⟨rfl, rfl⟩, Nat.le_of_ble_eq_true rfl, Nat.le_of_ble_eq_true rfl⟩) (hnc := ⟨Nat.zero_le _, Nat.zero_le _⟩) (fun r_1 y_1 h_1 => ?_)
  obtain ⟨h_1, ey_1⟩ := h_1
  obtain rfl := ey_1.symm
  rcases h_1 with ⟨hr_1, hlt_1, c, c33, c126, cc, cl, ch⟩ | ⟨hr_1, hno_1⟩
  · --
    obtain rfl : r_1 = 1 := hr_1
    refine rm_if_ne (tgt := 15) hc dX9_isDigit_7 (by decide) (fun _ => ?_) (fun h => absurd h (by decide))
    refine rm_aload_n hc dX9_isDigit_15 rfl rfl ?_
    refine rm_get hc dX9_isDigit_16 fl_X9_22 dm_14 rfl rfl ?_
    refine rm_iconst (v := 3) hc dX9_isDigit_19 (by decide) ?_
    refine rm_aload_n hc dX9_isDigit_20 rfl rfl ?_
    refine rm_geti hc dX9_isDigit_21 fl_X9_131 dm_14 rfl rfl (fun v_3 e_3 => ?_)
    obtain rfl : v_3 = (nI (tq)) := e_3.trans htq
    refine rm_imul hc dX9_isDigit_24 (fun v_4 e_4 => ?_)
    obtain rfl : v_4 = (nI (3 * tq)) := e_4.trans (nmul (m := 3) (n := tq) (by omega))
    clear e_4
    refine rm_iconst (v := 1) hc dX9_isDigit_25 (by decide) ?_
    refine rm_iadd hc dX9_isDigit_26 (fun v_5 e_5 => ?_)
    obtain rfl : v_5 = (nI (1 + 3 * tq)) := e_5.trans (nadd (m := 3 * tq) (n := 1) (by omega))
    clear e_5
    refine rm_aload_n hc dX9_isDigit_27 rfl rfl ?_
    refine rm_get hc dX9_isDigit_28 fl_X9_19 dm_14 rfl rfl ?_
    refine rm_aload_n hc dX9_isDigit_31 rfl rfl ?_
    refine rm_geti hc dX9_isDigit_32 fl_X9_117 dm_14 rfl rfl (fun v_6 e_6 => ?_)
    obtain rfl : v_6 = (nI (pp)) := e_6.trans hp
    refine rm_iald (i := pp) hc dX9_isDigit_35 dm_17 rfl (by omega) (by decide) rfl (fun v_7 e_7 => ?_)
    obtain rfl : v_7 = nI c := by rw [e_7]; obtain ⟨c', -, h126, h13, hc'⟩ := hT.c hM (i := pp) (by omega); rw [h13]; exact hc'.symm.trans cc
    refine rm_bipush (v := 48) hc dX9_isDigit_36 (by decide) ?_
    refine rm_isub hc dX9_isDigit_38 (fun v_8 e_8 => ?_)
    obtain rfl : v_8 = nI (c - 48) := e_8.trans (pk_sub (a := c) (b := 48) (by omega))
    refine rm_iast (i := 1 + 3 * tq) hc dX9_isDigit_39 dm_18 rfl (by omega) (by decide) rfl so_18 (rm_nm (fun x_9 ex_9 => ?_))
    refine rm_aload_n hc dX9_isDigit_40 rfl rfl ?_
    refine rm_dup hc dX9_isDigit_41 rfl ?_
    refine rm_geti hc dX9_isDigit_42 fl_X9_117 dm_14 rfl rfl (fun v_10 e_10 => ?_)
    obtain rfl : v_10 = (nI (pp)) := e_10.trans (by subst_vars; rw [up_b _ _ _ (by omega)]; exact hp)
    refine rm_iconst (v := 1) hc dX9_isDigit_45 (by decide) ?_
    refine rm_iadd hc dX9_isDigit_46 (fun v_11 e_11 => ?_)
    obtain rfl : v_11 = (nI (pp + 1)) := e_11.trans (nadd (m := pp) (n := 1) (by omega))
    clear e_11
    refine rm_put hc dX9_isDigit_47 fl_X9_117 dm_14 rfl (Nat.le_of_ble_eq_true rfl) ft_9_7 rfl rfl so_14_7 (rm_nm (fun x_12 ex_12 => ?_))
    refine rm_iconst (v := 1) hc dX9_isDigit_50 (by decide) ?_
    exact rm_zret hc dX9_isDigit_51 rfl (Or.inl ⟨rfl, by omega, c, cl, ch, cc, by subst_vars; rfl⟩)
  · --
    obtain rfl : r_1 = 0 := hr_1
    refine rm_if_ne (tgt := 15) hc dX9_isDigit_7 (by decide) (fun h => absurd h (by decide)) (fun _ => ?_)
    refine rm_aload_n hc dX9_isDigit_10 rfl rfl ?_
    refine rm_calliV (As := []) (rest := []) hc dX9_isDigit_11 (c_X9_stops hI x (pp := pp) (tl := tl) hp (hT.t hM) (by omega) (by omega)) mv_X9_127 dm_14 rfl rfl (hn := rfl) (hst := rfl) (hw := Nat.le_of_ble_eq_true rfl) (hR := ⟨⟨rfl, rfl⟩, Nat.le_of_ble_eq_true rfl, Nat.le_of_ble_eq_true rfl⟩) (hnc := ⟨Nat.zero_le _, Nat.zero_le _⟩) (fun r_14 y_14 h_14 => ?_)
    obtain ⟨e_14, ey_14⟩ := h_14
    obtain rfl : r_14 = 0 := e_14
    exact rm_zret hc dX9_isDigit_14 rfl (Or.inr ⟨rfl, hno_1, ey_14⟩)

set_option maxHeartbeats 4000000 in
set_option maxRecDepth 100000 in
theorem c_X9_areDoors {l : Launch} {D : va_G} {cy : Nat → ClassId} {ad : Ads} (hI : IJ ad) (x : Mem) (x0 xt : Mem) {pp tl tq : Nat} (hT : TXR xt x0 tl) (hM : MT x0 x) (hp : x 15 3 = nI pp) (hpl : pp ≤ tl) (htq : x 15 5 = nI tq) (h3 : 3 * tq ≤ pp) : Cti l yX9_areDoors cX9_areDoors 2 (some .boolean) rm_X9_areDoors D cy ad [.ref (ad 15 14 0)] x (fun r y => (r = 1 ∧ ∃ q, DoorsOk xt tl pp q ∧ y = up (up x 14 (2 + 3 * tq) (mkS xt (q - pp) pp 0)) 15 3 (nI q)) ∨ (r = 0 ∧ (pp < tl → expS 4 (codeS xt (nI pp)) = 8) ∧ y = up (up x 14 (2 + 3 * tq) 0) 15 4 (flg pp tl))) := by
  have h60 : tl ≤ 60 := hT.1
  refine rm_entry (Qc := Qi D cy ad (fun r y => (r = 1 ∧ ∃ q, DoorsOk xt tl pp q ∧ y = up (up x 14 (2 + 3 * tq) (mkS xt (q - pp) pp 0)) 15 3 (nI q)) ∨ (r = 0 ∧ (pp < tl → expS 4 (codeS xt (nI pp)) = 8) ∧ y = up (up x 14 (2 + 3 * tq) 0) 15 4 (flg pp tl)))) hI (by decide) (Nat.le_of_ble_eq_true rfl) ?_
  intro p e s m args below meth c hc
  show RM _ _ _ _ _ _ _ _ _ _ _ _ _ _ _ _ _ [(0, .ref (ad 15 14 0))] []
  refine rm_aload_n hc dX9_areDoors_0 rfl rfl ?_
  refine rm_get hc dX9_areDoors_1 fl_X9_22 dm_14 rfl rfl ?_
  refine rm_iconst (v := 3) hc dX9_areDoors_4 (by decide) ?_
  refine rm_aload_n hc dX9_areDoors_5 rfl rfl ?_
  refine rm_geti hc dX9_areDoors_6 fl_X9_131 dm_14 rfl rfl (fun v_1 e_1 => ?_)
  obtain rfl : v_1 = (nI (tq)) := e_1.trans htq
  refine rm_imul hc dX9_areDoors_9 (fun v_2 e_2 => ?_)
  obtain rfl : v_2 = (nI (3 * tq)) := e_2.trans (nmul (m := 3) (n := tq) (by omega))
  clear e_2
  refine rm_iconst (v := 2) hc dX9_areDoors_10 (by decide) ?_
  refine rm_iadd hc dX9_areDoors_11 (fun v_3 e_3 => ?_)
  obtain rfl : v_3 = (nI (2 + 3 * tq)) := e_3.trans (nadd (m := 3 * tq) (n := 2) (by omega))
  clear e_3
  refine rm_iconst (v := 0) hc dX9_areDoors_12 (by decide) ?_
  refine rm_iast (i := 2 + 3 * tq) hc dX9_areDoors_13 dm_18 rfl (by omega) (by decide) rfl so_18 (rm_nm (fun x_4 ex_4 => ?_))
  have hM1 : MT x0 x_4 := by rw [ex_4]; exact hM.u14 _ _
  have hp1 : x_4 15 3 = nI pp := by rw [ex_4, up_b _ _ _ (by omega)]; exact hp
  have htq1 : x_4 15 5 = nI tq := by rw [ex_4, up_b _ _ _ (by omega)]; exact htq
  have hm1 : x_4 = up x 14 (2 + 3 * tq) 0 := ex_4
  refine rm_aload_n hc dX9_areDoors_14 rfl rfl ?_
  refine rm_bipush (v := 45) hc dX9_areDoors_15 (by decide) ?_
  refine rm_bipush (v := 45) hc dX9_areDoors_17 (by decide) ?_
  refine rm_calliV (As := [.int 45, .int 45]) (rest := []) hc dX9_areDoors_19 (c_X9_isAt hI x_4 x0 xt (pp := pp) (tl := tl) (lo := 45) (hi := 45) hT hM1 hp1 (by omega) (by omega) (by omega)) mv_X9_124 dm_14 rfl rfl (hn := rfl) (hst := rfl) (hw := Nat.le_of_ble_eq_true rfl) (hR := ⟨⟨rfl, rfl⟩, Nat.le_of_ble_eq_true rfl, Nat.le_of_ble_eq_true rfl⟩) (hnc := ⟨Nat.zero_le _, Nat.zero_le _⟩) (fun r_5 y_5 h_5 => ?_)
  obtain ⟨h_5, ey_5⟩ := h_5
  obtain rfl := ey_5.symm
  rcases h_5 with ⟨hr_5, hlt_5, c, c33, c126, cc, cl, ch⟩ | ⟨hr_5, hno_5⟩
  · --
    obtain rfl : r_5 = 1 := hr_5
    refine rm_if_eq (tgt := 37) hc dX9_areDoors_22 (by decide) (fun h => absurd h (by decide)) (fun _ => ?_)
    refine rm_aload_n hc dX9_areDoors_25 rfl rfl ?_
    refine rm_dup hc dX9_areDoors_26 rfl ?_
    refine rm_geti hc dX9_areDoors_27 fl_X9_117 dm_14 rfl rfl (fun v_7 e_7 => ?_)
    obtain rfl : v_7 = (nI (pp)) := e_7.trans hp1
    refine rm_iconst (v := 1) hc dX9_areDoors_30 (by decide) ?_
    refine rm_iadd hc dX9_areDoors_31 (fun v_8 e_8 => ?_)
    obtain rfl : v_8 = (nI (pp + 1)) := e_8.trans (nadd (m := pp) (n := 1) (by omega))
    clear e_8
    refine rm_put hc dX9_areDoors_32 fl_X9_117 dm_14 rfl (Nat.le_of_ble_eq_true rfl) ft_9_7 rfl rfl so_14_7 (rm_nm (fun x_9 ex_9 => ?_))
    refine rm_iconst (v := 1) hc dX9_areDoors_35 (by decide) ?_
    exact rm_zret hc dX9_areDoors_36 rfl (Or.inl ⟨rfl, pp + 1, ⟨by omega, by omega, ⟨2, by omega, by rw [show pp + 1 - pp = 1 by omega]; show expS 4 (codeS xt (nI pp)) = _; rw [cc, exp_4 (by omega), if_pos (by omega)]; rfl, fun h9 => by obtain ⟨c', a1, a2, a3, a4⟩ := hT.c hM (i := pp + 1) h9; exact ⟨c', a1, a2, a4, by omega⟩⟩, fun n h1 h2 => by rw [show n = pp by omega, cc]; exact fun h8 => absurd ((nEq (nn := 59) (n := 59) rfl (by omega) (by omega)).mp h8) (by omega)⟩, by rw [ex_9, hm1, show pp + 1 - pp = 1 by omega]; show _ = up (up x 14 (2 + 3 * tq) (mk1 xt 0 pp)) 15 3 (nI (pp + 1)); rw [show mk1 xt 0 pp = 0 by unfold mk1; rw [dig_45 (by rw [cc]; congr 1; omega)]; rfl]⟩)
  · --
    obtain rfl : r_5 = 0 := hr_5
    refine rm_if_eq (tgt := 37) hc dX9_areDoors_22 (by decide) (fun _ => ?_) (fun h => absurd (by decide) h)
    refine rm_aload_n hc dX9_areDoors_37 rfl rfl ?_
    refine rm_bipush (v := 48) hc dX9_areDoors_38 (by decide) ?_
    refine rm_bipush (v := 50) hc dX9_areDoors_40 (by decide) ?_
    refine rm_calliV (As := [.int 48, .int 50]) (rest := []) hc dX9_areDoors_42 (c_X9_isAt hI x_4 x0 xt (pp := pp) (tl := tl) (lo := 48) (hi := 50) hT hM1 hp1 (by omega) (by omega) (by omega)) mv_X9_124 dm_14 rfl rfl (hn := rfl) (hst := rfl) (hw := Nat.le_of_ble_eq_true rfl) (hR := ⟨⟨rfl, rfl⟩, Nat.le_of_ble_eq_true rfl, Nat.le_of_ble_eq_true rfl⟩) (hnc := ⟨Nat.zero_le _, Nat.zero_le _⟩) (fun r_11 y_11 h_11 => ?_)
    obtain ⟨h_11, ey_11⟩ := h_11
    obtain rfl := ey_11.symm
    rcases h_11 with ⟨hr_11, hltd, d0, d033, d0126, d0c, d0l, d0h⟩ | ⟨hr_11, hno_11⟩
    · --
      obtain rfl : r_11 = 1 := hr_11
      refine rm_if_ne (tgt := 53) hc dX9_areDoors_45 (by decide) (fun _ => ?_) (fun h => absurd h (by decide))
      refine rm_bipush (v := 48) hc dX9_areDoors_53 (by decide) ?_
      refine rm_istore_n (ls' := [(0, .ref (ad 15 14 0)), (1, .int 48)]) hc dX9_areDoors_55 rfl (by decide) rfl ?_
      have key56 : ∀ (f q lo : Nat) (v : Int32) (zm : Mem), q + f = tl → pp ≤ q → zm = up (up x 14 (2 + 3 * tq) v) 15 3 (nI q) → v = mkS xt (q - pp) pp 0 → (∀ n, pp ≤ n → n < q → codeS xt (nI n) ≠ 59) → ((q = pp ∧ lo = 48) ∨ ∃ d, d ≤ 2 ∧ lo = 49 + d ∧ pp < q ∧ feS xt (q - pp) 4 pp = nI (5 + d)) → RM p l e rm_X9_areDoors s m args below meth c 2 (AA ad s.heap.size) (GG D cy ad zm) 0 0 (QQ (Qi D cy ad (fun r y => (r = 1 ∧ ∃ q, DoorsOk xt tl pp q ∧ y = up (up x 14 (2 + 3 * tq) (mkS xt (q - pp) pp 0)) 15 3 (nI q)) ∨ (r = 0 ∧ (pp < tl → expS 4 (codeS xt (nI pp)) = 8) ∧ y = up (up x 14 (2 + 3 * tq) 0) 15 4 (flg pp tl)))) below args s ad) 56 [(0, .ref (ad 15 14 0)), (1, .int (nI (lo)))] [] := by
        intro f
        induction f with
        | zero =>
          intro q lo v zm hqf hpq hz hv h59 hst
          have hlo50 : lo ≤ 51 := by rcases hst with ⟨-, h⟩ | ⟨d, h1, h2, -⟩ <;> omega
          have hMz : MT x0 zm := by rw [hz]; exact (hM.u14 _ _).u15 (by omega) _
          have hpz : zm 15 3 = nI q := by rw [hz]; exact up_s _ _ _ _
          have htz : zm 15 5 = nI tq := by rw [hz, up_n _ _ (by omega), up_b _ _ _ (by omega)]; exact htq
          refine rm_aload_n hc dX9_areDoors_56 rfl rfl ?_
          refine rm_iload_n hc dX9_areDoors_57 rfl rfl ?_
          refine rm_bipush (v := 50) hc dX9_areDoors_58 (by decide) ?_
          refine rm_calliV (As := [.int (nI (lo)), .int 50]) (rest := []) hc dX9_areDoors_60 (c_X9_isAt hI zm x0 xt (pp := q) (tl := tl) (lo := lo) (hi := 50) hT hMz hpz (by omega) (by omega) (by omega)) mv_X9_124 dm_14 rfl rfl (hn := rfl) (hst := rfl) (hw := Nat.le_of_ble_eq_true rfl) (hR := ⟨⟨rfl, rfl⟩, Nat.le_of_ble_eq_true rfl, Nat.le_of_ble_eq_true rfl⟩) (hnc := ⟨Nat.zero_le _, Nat.zero_le _⟩) (fun r_13 y_13 h_13 => ?_)
          obtain ⟨h_13, ey_13⟩ := h_13
          obtain rfl := ey_13.symm
          rcases h_13 with ⟨hr_13, hlt_13, k, k33, k126, kc, kl, kh⟩ | ⟨hr_13, hno_13⟩
          · exact absurd hlt_13 (by omega)
          · --
            obtain rfl : r_13 = 0 := hr_13
            have hfirst : q = pp → lo = 48 → False := fun h1 h2 => by subst h1; obtain ⟨c', a1, a2, a3, a4⟩ := hno_13 hltd; obtain rfl : c' = d0 := (nI_eq (by omega) (by omega)).mp (a3.symm.trans d0c); omega
            refine rm_if_eq (tgt := 121) hc dX9_areDoors_63 (by decide) (fun _ => ?_) (fun h => absurd (by decide) h)
            refine rm_iconst (v := 1) hc dX9_areDoors_121 (by decide) ?_
            exact rm_zret hc dX9_areDoors_122 rfl (Or.inl ⟨rfl, q, ⟨by rcases hst with ⟨h1, h2⟩ | ⟨d, h1, h2, h4, h5⟩; exact absurd (hfirst h1 h2) id; exact h4, by omega, by rcases hst with ⟨h1, h2⟩ | ⟨d, h1, h2, h4, h5⟩; exact absurd (hfirst h1 h2) id; exact ⟨d, h1, h5, fun h9 => by obtain ⟨c', a1, a2, a3, a4⟩ := hno_13 h9; exact ⟨c', a1, a2, a3, by omega⟩⟩, h59⟩, by rw [hz, hv]⟩)
        | succ f ih =>
          intro q lo v zm hqf hpq hz hv h59 hst
          have hlo50 : lo ≤ 51 := by rcases hst with ⟨-, h⟩ | ⟨d, h1, h2, -⟩ <;> omega
          have hMz : MT x0 zm := by rw [hz]; exact (hM.u14 _ _).u15 (by omega) _
          have hpz : zm 15 3 = nI q := by rw [hz]; exact up_s _ _ _ _
          have htz : zm 15 5 = nI tq := by rw [hz, up_n _ _ (by omega), up_b _ _ _ (by omega)]; exact htq
          refine rm_aload_n hc dX9_areDoors_56 rfl rfl ?_
          refine rm_iload_n hc dX9_areDoors_57 rfl rfl ?_
          refine rm_bipush (v := 50) hc dX9_areDoors_58 (by decide) ?_
          refine rm_calliV (As := [.int (nI (lo)), .int 50]) (rest := []) hc dX9_areDoors_60 (c_X9_isAt hI zm x0 xt (pp := q) (tl := tl) (lo := lo) (hi := 50) hT hMz hpz (by omega) (by omega) (by omega)) mv_X9_124 dm_14 rfl rfl (hn := rfl) (hst := rfl) (hw := Nat.le_of_ble_eq_true rfl) (hR := ⟨⟨rfl, rfl⟩, Nat.le_of_ble_eq_true rfl, Nat.le_of_ble_eq_true rfl⟩) (hnc := ⟨Nat.zero_le _, Nat.zero_le _⟩) (fun r_15 y_15 h_15 => ?_)
          obtain ⟨h_15, ey_15⟩ := h_15
          obtain rfl := ey_15.symm
          rcases h_15 with ⟨hr_15, hlt_15, k, k33, k126, kc, kl, kh⟩ | ⟨hr_15, hno_15⟩
          · --
            obtain rfl : r_15 = 1 := hr_15
            refine rm_if_eq (tgt := 121) hc dX9_areDoors_63 (by decide) (fun h => absurd h (by decide)) (fun _ => ?_)
            have harst : expS (feS xt (q - pp) 4 pp) (nI k) = nI (5 + (k - 48)) := by
              rcases hst with ⟨h1, h2⟩ | ⟨d, h1, h2, h4, h5⟩
              · rw [h1, Nat.sub_self]; show expS 4 (nI k) = _; rw [exp_4 (by omega), if_neg (by omega), if_pos (by omega)]
              · rw [h5, exp_s h1 (by omega), if_neg (by omega), if_pos (by omega)]
            refine rm_aload_n hc dX9_areDoors_66 rfl rfl ?_
            refine rm_get hc dX9_areDoors_67 fl_X9_22 dm_14 rfl rfl ?_
            refine rm_iconst (v := 3) hc dX9_areDoors_70 (by decide) ?_
            refine rm_aload_n hc dX9_areDoors_71 rfl rfl ?_
            refine rm_geti hc dX9_areDoors_72 fl_X9_131 dm_14 rfl rfl (fun v_17 e_17 => ?_)
            obtain rfl : v_17 = (nI (tq)) := e_17.trans htz
            refine rm_imul hc dX9_areDoors_75 (fun v_18 e_18 => ?_)
            obtain rfl : v_18 = (nI (3 * tq)) := e_18.trans (nmul (m := 3) (n := tq) (by omega))
            clear e_18
            refine rm_iconst (v := 2) hc dX9_areDoors_76 (by decide) ?_
            refine rm_iadd hc dX9_areDoors_77 (fun v_19 e_19 => ?_)
            obtain rfl : v_19 = (nI (2 + 3 * tq)) := e_19.trans (nadd (m := 3 * tq) (n := 2) (by omega))
            clear e_19
            refine rm_dup2 hc dX9_areDoors_78 rfl rfl ?_
            refine rm_iald (i := 2 + 3 * tq) hc dX9_areDoors_79 dm_18 rfl (by omega) (by decide) rfl (fun v_20 e_20 => ?_)
            replace e_20 : v_20 = v := by rw [e_20, hz, up_b _ _ _ (by omega)]; exact up_s _ _ _ _
            refine rm_iconst (v := 1) hc dX9_areDoors_80 (by decide) ?_
            refine rm_aload_n hc dX9_areDoors_81 rfl rfl ?_
            refine rm_get hc dX9_areDoors_82 fl_X9_19 dm_14 rfl rfl ?_
            refine rm_aload_n hc dX9_areDoors_85 rfl rfl ?_
            refine rm_geti hc dX9_areDoors_86 fl_X9_117 dm_14 rfl rfl (fun v_21 e_21 => ?_)
            obtain rfl : v_21 = (nI (q)) := e_21.trans hpz
            refine rm_iald (i := q) hc dX9_areDoors_89 dm_17 rfl (by omega) (by decide) rfl (fun v_22 e_22 => ?_)
            obtain rfl : v_22 = nI k := by rw [e_22]; obtain ⟨c', -, h126, h13, hc'⟩ := hT.c hMz (i := q) (by omega); rw [h13]; exact hc'.symm.trans kc
            refine rm_bipush (v := 48) hc dX9_areDoors_90 (by decide) ?_
            refine rm_isub hc dX9_areDoors_92 (fun v_23 e_23 => ?_)
            obtain rfl : v_23 = nI (k - 48) := e_23.trans (pk_sub (a := k) (b := 48) (by omega))
            refine rm_ishl hc dX9_areDoors_93 (fun v_24 e_24 => ?_)
            refine rm_ior hc dX9_areDoors_94 (fun v_25 e_25 => ?_)
            refine rm_iast (i := 2 + 3 * tq) hc dX9_areDoors_95 dm_18 rfl (by omega) (by decide) rfl so_18 (rm_nm (fun x_26 ex_26 => ?_))
            refine rm_aload_n hc dX9_areDoors_96 rfl rfl ?_
            refine rm_get hc dX9_areDoors_97 fl_X9_19 dm_14 rfl rfl ?_
            refine rm_aload_n hc dX9_areDoors_100 rfl rfl ?_
            refine rm_geti hc dX9_areDoors_101 fl_X9_117 dm_14 rfl rfl (fun v_27 e_27 => ?_)
            obtain rfl : v_27 = (nI (q)) := e_27.trans (by subst_vars; rw [up_b _ _ _ (by omega)]; exact up_s _ _ _ _)
            refine rm_iald (i := q) hc dX9_areDoors_104 dm_17 rfl (by omega) (by decide) rfl (fun v_28 e_28 => ?_)
            obtain rfl : v_28 = nI k := by rw [e_28, ex_26, up_b _ _ _ (by omega)]; obtain ⟨c', -, h126, h13, hc'⟩ := hT.c hMz (i := q) (by omega); rw [h13]; exact hc'.symm.trans kc
            refine rm_iconst (v := 1) hc dX9_areDoors_105 (by decide) ?_
            refine rm_iadd hc dX9_areDoors_106 (fun v_29 e_29 => ?_)
            obtain rfl : v_29 = (nI (k + 1)) := e_29.trans (nadd (m := k) (n := 1) (by omega))
            clear e_29
            refine rm_istore_n (ls' := [(0, .ref (ad 15 14 0)), (1, .int (nI (k + 1)))]) hc dX9_areDoors_107 rfl (by decide) rfl ?_
            refine rm_aload_n hc dX9_areDoors_108 rfl rfl ?_
            refine rm_dup hc dX9_areDoors_109 rfl ?_
            refine rm_geti hc dX9_areDoors_110 fl_X9_117 dm_14 rfl rfl (fun v_30 e_30 => ?_)
            obtain rfl : v_30 = (nI (q)) := e_30.trans (by subst_vars; rw [up_b _ _ _ (by omega)]; exact up_s _ _ _ _)
            refine rm_iconst (v := 1) hc dX9_areDoors_113 (by decide) ?_
            refine rm_iadd hc dX9_areDoors_114 (fun v_31 e_31 => ?_)
            obtain rfl : v_31 = (nI (q + 1)) := e_31.trans (nadd (m := q) (n := 1) (by omega))
            clear e_31
            refine rm_put hc dX9_areDoors_115 fl_X9_117 dm_14 rfl (Nat.le_of_ble_eq_true rfl) ft_9_7 rfl rfl so_14_7 (rm_nm (fun x_32 ex_32 => ?_))
            refine rm_goto (tgt := 56) hc dX9_areDoors_118 (by decide) ?_
            exact ih (q + 1) (k + 1) v_25 _ (by omega) (by omega) (by rw [ex_32, ex_26, hz]; exact ar_mem) (by rw [show q + 1 - pp = (q - pp) + 1 by omega, mkS_snoc, ← hv, show pp + (q - pp) = q by omega, mk1_d kc (by omega) (by omega)]; rw [e_25, e_24, e_20]) (fun n h1 h2 => by rcases Nat.lt_or_ge n q with h9 | h9; exact h59 n h1 h9; rw [show n = q by omega, kc]; exact fun h8 => absurd ((nEq (nn := 59) (n := 59) rfl (by omega) (by omega)).mp h8) (by omega)) (Or.inr ⟨k - 48, by omega, by omega, by omega, by rw [show q + 1 - pp = (q - pp) + 1 by omega, feS_snoc, show pp + (q - pp) = q by omega, kc]; exact harst⟩)
          · --
            obtain rfl : r_15 = 0 := hr_15
            have hfirst : q = pp → lo = 48 → False := fun h1 h2 => by subst h1; obtain ⟨c', a1, a2, a3, a4⟩ := hno_15 hltd; obtain rfl : c' = d0 := (nI_eq (by omega) (by omega)).mp (a3.symm.trans d0c); omega
            refine rm_if_eq (tgt := 121) hc dX9_areDoors_63 (by decide) (fun _ => ?_) (fun h => absurd (by decide) h)
            refine rm_iconst (v := 1) hc dX9_areDoors_121 (by decide) ?_
            exact rm_zret hc dX9_areDoors_122 rfl (Or.inl ⟨rfl, q, ⟨by rcases hst with ⟨h1, h2⟩ | ⟨d, h1, h2, h4, h5⟩; exact absurd (hfirst h1 h2) id; exact h4, by omega, by rcases hst with ⟨h1, h2⟩ | ⟨d, h1, h2, h4, h5⟩; exact absurd (hfirst h1 h2) id; exact ⟨d, h1, h5, fun h9 => by obtain ⟨c', a1, a2, a3, a4⟩ := hno_15 h9; exact ⟨c', a1, a2, a3, by omega⟩⟩, h59⟩, by rw [hz, hv]⟩)
      exact key56 (tl - pp) pp 48 0 _ (by omega) (by omega) (by rw [hm1]; exact (up_id (by rw [up_b _ _ _ (by omega)]; exact hp.symm)).symm) (by rw [Nat.sub_self]; rfl) (fun n h1 h2 => absurd h1 (by omega)) (Or.inl ⟨rfl, rfl⟩)
    · --
      obtain rfl : r_11 = 0 := hr_11
      refine rm_if_ne (tgt := 53) hc dX9_areDoors_45 (by decide) (fun h => absurd h (by decide)) (fun _ => ?_)
      refine rm_aload_n hc dX9_areDoors_48 rfl rfl ?_
      refine rm_calliV (As := []) (rest := []) hc dX9_areDoors_49 (c_X9_stops hI x_4 (pp := pp) (tl := tl) hp1 (hT.t hM1) (by omega) (by omega)) mv_X9_127 dm_14 rfl rfl (hn := rfl) (hst := rfl) (hw := Nat.le_of_ble_eq_true rfl) (hR := ⟨⟨rfl, rfl⟩, Nat.le_of_ble_eq_true rfl, Nat.le_of_ble_eq_true rfl⟩) (hnc := ⟨Nat.zero_le _, Nat.zero_le _⟩) (fun r_35 y_35 h_35 => ?_)
      obtain ⟨e_35, ey_35⟩ := h_35
      obtain rfl : r_35 = 0 := e_35
      exact rm_zret hc dX9_areDoors_52 rfl (Or.inr ⟨rfl, fun h9 => by obtain ⟨c1, a1, a2, a3, a4⟩ := hno_5 h9; obtain ⟨c2, b1, b2, b3, b4⟩ := hno_11 h9; obtain rfl : c1 = c2 := (nI_eq (by omega) (by omega)).mp (a3.symm.trans b3); rw [a3, exp_4 (by omega), if_neg (by omega), if_neg (by omega)], by rw [ey_35, hm1]⟩)
