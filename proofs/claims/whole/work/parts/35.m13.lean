theorem inM_1 {v lo hi : Int32} (h1 : ¬ v < lo) (h2 : ¬ hi < v) : inM v lo hi = 1 := by
  unfold inM
  rw [if_neg h1, if_neg h2]
theorem inN {j n : Nat} {nn : Int32} (hn : nn = nI n) (h : j ≤ n) (h2 : n < 2 ^ 31) : inM (nI j) 0 nn = 1 :=
  inM_1 (fun q => absurd ((nI_ltI (a := j) (b := 0) (by omega) (by omega)).mp q) (by omega)) (fun q => absurd ((nI_ltI (a := n) (b := j) (by omega) (by omega)).mp (hn ▸ q)) (by omega))
theorem isSlN {d s : Nat} (hd : d < 3) (hs : s < 4) : isSl (nI d) (nI s) = 1 := by
  unfold isSl
  rw [inN (nn := 2) (n := 2) rfl (by omega) (by omega), inN (nn := 3) (n := 3) rfl (by omega) (by omega)]
  rfl
def T0 (x : Mem) : Mem := up x 15 2 0
def TF (x : Mem) (a : Int32) : Mem := up (T0 x) 15 2 a
theorem svM_10 {x : Mem} {kq : Nat} : svM x kq 10 = x 10 := by
  funext n
  unfold svM
  split
  · rw [up_b _ _ _ (by omega), cpS_b (by omega), up_b _ _ _ (by omega)]
    unfold shP
    rw [if_neg (by omega)]
  · rw [up_b _ _ _ (by omega), cpS_b (by omega)]
theorem T0_10 {x : Mem} : T0 x 10 = x 10 := funext fun n => up_b _ _ _ (by omega)
theorem T0_b {x : Mem} {b : Nat} (h : b ≠ 15) : T0 x b = x b := funext fun n => up_b _ _ _ h
theorem sv0 {x : Mem} {kq : Nat} : svM (T0 x) kq 10 = x 10 := svM_10.trans T0_10
theorem T0_0 {x : Mem} : T0 x 15 0 = x 15 0 := up_n _ _ (by omega)
/-- a recorded number is sent again, as the model writes it -/
def agM (x : Mem) (ii : Nat) (msk : Int32) (mm : Nat) : Int32 × Mem :=
  ((sendS x 10 msk (x 10 (6 + ii)) mm 3).1, up (up (sendS x 10 msk (x 10 (6 + ii)) mm 3).2 10 3 ((sendS x 10 msk (x 10 (6 + ii)) mm 3).2 10 3 + 1)) 10 4 ((sendS x 10 msk (x 10 (6 + ii)) mm 3).2 10 4 + nI (ones3 (sendS x 10 msk (x 10 (6 + ii)) mm 3).1.toNatClampNeg)))
def lrM (x : Mem) (d : Nat) : Int32 := 0 + x 10 (36 + 22 * d) + x 10 (40 + 22 * d) + x 10 (44 + 22 * d) + x 10 (48 + 22 * d)
def lnM (x : Mem) (d s j : Nat) : Mem := up (up (up (up x 10 (36 + 22 * d + 4 * s) 1) 10 (37 + 22 * d + 4 * s) (x 10 (14 + 4 * j))) 10 (38 + 22 * d + 4 * s) (x 10 (15 + 4 * j))) 10 (39 + 22 * d + 4 * s) (-1)
def ofF (x : Mem) (j w : Nat) : Int32 := if w = 3 then nxtN x 10 j else if w = 4 then x 10 (17 + 4 * j) else x 10 (14 + 4 * j + w)
def ofS (x : Mem) (d s w : Nat) : Int32 := if x 10 (36 + 22 * d + 4 * s) = 1 then x 10 (36 + 22 * d + 4 * s + w) else if w = 0 then 0 else -1
def ofD (x : Mem) (d w : Nat) : Int32 := if w < 2 then x 10 (30 + 22 * d + w) else if w = 2 then (if lockS (x 10 2) (x 10 (31 + 22 * d)) = 0 then 0 else 1) else if w = 3 then lrM x d else x 10 (28 + 22 * d + w)
def ofDs (x : Mem) (w : Nat) : Int32 := sum3 (ofD x 0 w) (ofD x 1 w) (ofD x 2 w)
def cntM (x : Mem) (w : Nat) : Int32 := if w = 0 then x 10 17 + x 10 21 + x 10 25 + x 10 29 else if w = 1 then x 10 3 else if w = 2 then ofDs x 4 else if w = 3 then x 10 4 else if w = 4 then ofDs x 0 else if w = 5 then ofDs x 2 else if w = 6 then x 10 5 else x 15 0
/-- how many presses may go unheard, over the block k -/
def munK (x : Mem) (k d : Nat) (sc : Int32) (mm : Nat) : Nat → Int32 → Nat → Int32
  | 0, _, i => if i = 0 then -1 else nI (i - 1)
  | f + 1, c, i => if hrR x k d k (nu sc (nx c)) mm = 0 then munK x k d sc mm f (nx c) (i + 1) else if i = 0 then -1 else nI (i - 1)
theorem munK_y {x : Mem} {k d : Nat} {sc : Int32} {mm f i : Nat} {c : Int32} (h : hrR x k d k (nu sc (nx c)) mm = 0) : munK x k d sc mm (f + 1) c i = munK x k d sc mm f (nx c) (i + 1) := by simp [munK, h]
theorem munK_n {x : Mem} {k d : Nat} {sc : Int32} {mm f i : Nat} {c : Int32} (h : ¬ hrR x k d k (nu sc (nx c)) mm = 0) : munK x k d sc mm (f + 1) c i = if i = 0 then -1 else nI (i - 1) := by simp [munK, h]
def fusK (x : Mem) (k d mm : Nat) : Nat → Nat → Int32
  | 0, _ => -1
  | f + 1, i => if hrR x k d k (x k (6 + i)) mm = 0 then nI i else fusK x k d mm f (i + 1)
theorem fusK_y {x : Mem} {k d mm f i : Nat} (h : hrR x k d k (x k (6 + i)) mm = 0) : fusK x k d mm (f + 1) i = nI i := by simp [fusK, h]
theorem fusK_n {x : Mem} {k d mm f i : Nat} (h : ¬ hrR x k d k (x k (6 + i)) mm = 0) : fusK x k d mm (f + 1) i = fusK x k d mm f (i + 1) := by simp [fusK, h]
/-- the presses that it takes, over the block 11 -/
def opK (j : Nat) (msk : Int32) (mm : Nat) : Nat → Mem → Nat → Int32
  | 0, _, _ => -1
  | f + 1, z, i => if z 11 (16 + 4 * j) = 0 then -1 else if ¬ (prsS z 11 j msk mm).1 = 0 then nI (i + 1) else opK j msk mm f (prsS z 11 j msk mm).2 (i + 1)
theorem opK_0 {j mm f i : Nat} {msk : Int32} {z : Mem} (h : z 11 (16 + 4 * j) = 0) : opK j msk mm (f + 1) z i = -1 := by simp [opK, h]
theorem opK_y {j mm f i : Nat} {msk : Int32} {z : Mem} (h : ¬ z 11 (16 + 4 * j) = 0) (h2 : ¬ (prsS z 11 j msk mm).1 = 0) : opK j msk mm (f + 1) z i = nI (i + 1) := by simp [opK, h, h2]
theorem opK_n {j mm f i : Nat} {msk : Int32} {z : Mem} (h : ¬ z 11 (16 + 4 * j) = 0) (h2 : (prsS z 11 j msk mm).1 = 0) : opK j msk mm (f + 1) z i = opK j msk mm f (prsS z 11 j msk mm).2 (i + 1) := by simp [opK, h, h2]
theorem sndF_blk {x y : Mem} {k k2 j : Nat} (h : y k2 = x k) : sndF y k2 j k2 = sndF x k j k := by
  unfold sndF
  exact up_blk (up_blk (up_blk h (by rw [h])) (by rw [h])) (by rw [h])
theorem snd_blk {x y : Mem} {k k2 mm d : Nat} {msk num : Int32} (h : y k2 = x k) : (sendS y k2 msk num mm d).2 k2 = (sendS x k msk num mm d).2 k ∧ (sendS y k2 msk num mm d).1 = (sendS x k msk num mm d).1 := by
  induction d with
  | zero => exact ⟨h, rfl⟩
  | succ d ih =>
    unfold sendS
    split
    · refine ⟨hrM_blk ih.1, ?_⟩
      show (if _ then _ else _) = (if _ then _ else _)
      rw [hrR_blk ih.1, ih.2]
    · exact ih
theorem prs_blk {x y : Mem} {k k2 j mm : Nat} {msk : Int32} (h : y k2 = x k) : (prsS y k2 j msk mm).2 k2 = (prsS x k j msk mm).2 k ∧ (prsS y k2 j msk mm).1 = (prsS x k j msk mm).1 := by
  have hn : nxtN y k2 j = nxtN x k j := by
    unfold nxtN
    rw [h]
  unfold prsS
  rw [hn]
  exact snd_blk (recF_blk (sndF_blk h))
theorem M7.prs {u y : Mem} (h : M7 u y) {k j mm : Nat} {msk : Int32} (hk : k ≠ 15) : M7 (prsS u k j msk mm).2 (prsS y k j msk mm).2 := fun b n hb => by
  by_cases h1 : b = k
  · subst h1
    exact congrFun (prs_blk (h.blk hk)).1 n
  · rw [prsS_b h1, prsS_b h1]; exact h b n hb
theorem RF.prs {x : Mem} {k j mm : Nat} {msk : Int32} (h : RF (x k)) (hj : j < 4) : RF ((prsS x k j msk mm).2 k) := fun i hi => by
  obtain ⟨a, b, ha, hb, h1, h2⟩ := h i hi
  unfold prsS
  by_cases e : i = j
  · subst e
    refine ⟨a, (b + 1) % 10000, ha, Nat.mod_lt _ (by omega), ?_, ?_⟩
    · rw [sendS_lo (by omega)]
      unfold recF shA sndF
      rw [up_n _ _ (by omega), up_n _ _ (by omega), if_neg (by omega), up_n _ _ (by omega), up_n _ _ (by omega), up_n _ _ (by omega)]
      exact h1
    · rw [sendS_lo (by omega)]
      unfold recF shA sndF
      rw [up_n _ _ (by omega), up_n _ _ (by omega), if_neg (by omega), up_s, h2, nx_n hb]
  · refine ⟨a, b, ha, hb, ?_, ?_⟩
    · rw [sendS_lo (by omega)]
      unfold recF shA sndF
      rw [up_n _ _ (by omega), up_n _ _ (by omega), if_neg (by omega), up_n _ _ (by omega), up_n _ _ (by omega), up_n _ _ (by omega)]
      exact h1
    · rw [sendS_lo (by omega)]
      unfold recF shA sndF
      rw [up_n _ _ (by omega), up_n _ _ (by omega), if_neg (by omega), up_n _ _ (by omega), up_n _ _ (by omega), up_n _ _ (by omega)]
      exact h2
theorem RS.prs {x : Mem} {k j mm : Nat} {msk : Int32} (h : RS (x k)) (hj : j < 4) (hm : mm ≤ 500) : RS ((prsS x k j msk mm).2 k) := RS.snd ((h.sF hj).rec) hm 3 (by omega)
theorem hrM_hi {x : Mem} {k d n mm : Nat} {num : Int32} (hd : d < 3) (hn : 96 ≤ n) : hrM x k d k num mm k n = x k n := by
  rcases hr_or x k d mm num with ⟨-, -, e⟩ | ⟨-, ⟨-, -, e⟩ | ⟨s, t, hs, h1, ht, -, hne, ⟨-, -, e⟩ | ⟨-, -, e⟩⟩⟩ <;> rw [e]
  · rw [up_n _ _ (by omega)]
  · rw [up_n _ _ (by omega), up_n _ _ (by omega)]
  · unfold opnM tak1
    rw [up_n _ _ (by omega), up_n _ _ (by omega), up_n _ _ (by omega), up_n _ _ (by omega), up_n _ _ (by omega)]
  · unfold tak0
    rw [up_n _ _ (by omega), up_n _ _ (by omega)]
theorem sendS_hi {x : Mem} {k n mm : Nat} {msk num : Int32} (hn : 96 ≤ n) : ∀ d, d ≤ 3 → (sendS x k msk num mm d).2 k n = x k n
  | 0, _ => rfl
  | d + 1, hd => by
    unfold sendS
    split
    · exact (hrM_hi (by omega) hn).trans (sendS_hi hn d (by omega))
    · exact sendS_hi hn d (by omega)
theorem prsS_hi {x : Mem} {k j n mm : Nat} {msk : Int32} (hj : j < 4) (hn : 96 ≤ n) : (prsS x k j msk mm).2 k n = x k n := by
  unfold prsS
  rw [sendS_hi hn 3 (by omega)]
  unfold recF shA sndF
  rw [up_n _ _ (by omega), up_n _ _ (by omega), if_neg (by omega), up_n _ _ (by omega), up_n _ _ (by omega), up_n _ _ (by omega)]
/-- alike but for the trial state and what looking leaves -/
def M11 (u y : Mem) : Prop := ∀ b n, (b ≠ 11 ∨ 96 ≤ n) → ¬ (b = 15 ∧ (n = 6 ∨ n = 7)) → y b n = u b n
theorem M11.rf (u : Mem) : M11 u u := fun _ _ _ _ => rfl
theorem M11.tr {u v w : Mem} (h1 : M11 u v) (h2 : M11 v w) : M11 u w := fun b n h h' => (h2 b n h h').trans (h1 b n h h')
theorem M7.m11 {u y : Mem} (h : M7 u y) : M11 u y := fun b n _ h' => h b n h'
theorem M11.blk {u y : Mem} (h : M11 u y) {b : Nat} (hb : b ≠ 15) (h1 : b ≠ 11) : y b = u b := funext fun n => h b n (Or.inl h1) (fun q => hb q.1)
theorem M11.at {u y : Mem} (h : M11 u y) {b n : Nat} (hb : b ≠ 15) (h1 : b ≠ 11) : y b n = u b n := h b n (Or.inl h1) (fun q => hb q.1)
theorem M11.prs {u y : Mem} (h : M11 u y) {j mm : Nat} {msk : Int32} (hj : j < 4) : M11 u (prsS y 11 j msk mm).2 := fun b n h1 h2 => by
  by_cases hb : b = 11
  · subst hb
    exact (prsS_hi hj (h1.resolve_left (fun q => q rfl))).trans (h 11 n h1 h2)
  · exact (prsS_b hb).trans (h b n h1 h2)
theorem M11.cp {u : Mem} : M11 u (cpS u 11 0 10 0 96) := fun b n h1 _ => by
  by_cases hb : b = 11
  · subst hb
    unfold cpS
    rw [if_neg (by omega)]
  · exact cpS_b hb
abbrev rm_X9_ones : Room := { frames := 0, cells := 0, slots := 0, locals := 0 }
set_option maxHeartbeats 4000000 in
set_option maxRecDepth 100000 in
theorem c_X9_ones {l : Launch} {D : va_G} {cy : Nat → ClassId} {ad : Ads} (hI : IJ ad) (x : Mem) {bn : Nat} (hbn : bn < 8) : Cti l yX9_ones cX9_ones 1 (some .int) rm_X9_ones D cy ad [.int (nI (bn))] x (fun r y => r = nI (ones3 bn) ∧ y = x) := by
  refine rm_entry (Qc := Qi D cy ad (fun r y => r = nI (ones3 bn) ∧ y = x)) hI (by decide) (Nat.le_of_ble_eq_true rfl) ?_
  intro p e s m args below meth c hc
  show RM _ _ _ _ _ _ _ _ _ _ _ _ _ _ _ _ _ [(0, .int (nI (bn)))] []
  refine rm_iload_n hc dX9_ones_0 rfl rfl ?_
  refine rm_iconst (v := 1) hc dX9_ones_1 (by decide) ?_
  refine rm_iand hc dX9_ones_2 (fun v_1 e_1 => ?_)
  refine rm_iload_n hc dX9_ones_3 rfl rfl ?_
  refine rm_iconst (v := 1) hc dX9_ones_4 (by decide) ?_
  refine rm_ishr hc dX9_ones_5 (fun v_2 e_2 => ?_)
  refine rm_iconst (v := 1) hc dX9_ones_6 (by decide) ?_
  refine rm_iand hc dX9_ones_7 (fun v_3 e_3 => ?_)
  refine rm_iadd hc dX9_ones_8 (fun v_4 e_4 => ?_)
  refine rm_iload_n hc dX9_ones_9 rfl rfl ?_
  refine rm_iconst (v := 2) hc dX9_ones_10 (by decide) ?_
  refine rm_ishr hc dX9_ones_11 (fun v_5 e_5 => ?_)
  refine rm_iconst (v := 1) hc dX9_ones_12 (by decide) ?_
  refine rm_iand hc dX9_ones_13 (fun v_6 e_6 => ?_)
  refine rm_iadd hc dX9_ones_14 (fun v_7 e_7 => ?_)
  exact rm_iret hc dX9_ones_15 ⟨by subst_vars; exact ones_n hbn, rfl⟩

abbrev rm_X9_changes : Room := { frames := 0, cells := 0, slots := 0, locals := 0 }
set_option maxHeartbeats 4000000 in
set_option maxRecDepth 100000 in
theorem c_X9_changes {l : Launch} {D : va_G} {cy : Nat → ClassId} {ad : Ads} (hI : IJ ad) (x : Mem) {n : Nat} (hn : n < 96) (a : Int32) : Cti l yX9_changes cX9_changes 4 (some .int) rm_X9_changes D cy ad [.ref (ad 15 14 0), .int (nI (n)), .int a] x (fun r y => r = x 10 n ∧ y = up x 10 n a) := by
  refine rm_entry (Qc := Qi D cy ad (fun r y => r = x 10 n ∧ y = up x 10 n a)) hI (by decide) (Nat.le_of_ble_eq_true rfl) ?_
  intro p e s m args below meth c hc
  show RM _ _ _ _ _ _ _ _ _ _ _ _ _ _ _ _ _ [(0, .ref (ad 15 14 0)), (1, .int (nI (n))), (2, .int a)] []
  refine rm_aload_n hc dX9_changes_0 rfl rfl ?_
  refine rm_get hc dX9_changes_1 fl_X9_7 dm_14 rfl rfl ?_
  refine rm_iload_n hc dX9_changes_4 rfl rfl ?_
  refine rm_iald (i := n) hc dX9_changes_5 (dm_15 (by omega)) rfl (by omega) (by decide) rfl (fun v_1 e_1 => ?_)
  refine rm_istore_n (ls' := [(0, .ref (ad 15 14 0)), (1, .int (nI (n))), (2, .int a), (3, .int v_1)]) hc dX9_changes_6 rfl (by decide) rfl ?_
  refine rm_aload_n hc dX9_changes_7 rfl rfl ?_
  refine rm_get hc dX9_changes_8 fl_X9_7 dm_14 rfl rfl ?_
  refine rm_iload_n hc dX9_changes_11 rfl rfl ?_
  refine rm_iload_n hc dX9_changes_12 rfl rfl ?_
  refine rm_iast (i := n) hc dX9_changes_13 (dm_15 (by omega)) rfl (by omega) (by decide) rfl (so_15 (by omega)) (rm_nm (fun x_2 ex_2 => ?_))
  refine rm_iload_n hc dX9_changes_14 rfl rfl ?_
  exact rm_iret hc dX9_changes_15 ⟨by subst_vars; rfl, by subst_vars; rfl⟩

abbrev rm_X9_sends : Room := { frames := 5, cells := 0, slots := 0, locals := 124 }
set_option maxHeartbeats 4000000 in
set_option maxRecDepth 100000 in
theorem c_X9_sends {l : Launch} {D : va_G} {cy : Nat → ClassId} {ad : Ads} (hI : IJ ad) (x : Mem) {ii : Nat} (hii : ii < 8) (msk : Int32) (hRS : RS (x 10)) (mm : Nat) (hmm : mm ≤ 500) (hw : x 10 1 = nI mm) : Cti l yX9_sends cX9_sends 4 (some .int) rm_X9_sends D cy ad [.ref (ad 15 14 0), .int (nI (ii)), .int msk] x (fun r y => r = (agM x ii msk mm).1 ∧ M7 (agM x ii msk mm).2 y) := by
  refine rm_entry (Qc := Qi D cy ad (fun r y => r = (agM x ii msk mm).1 ∧ M7 (agM x ii msk mm).2 y)) hI (by decide) (Nat.le_of_ble_eq_true rfl) ?_
  intro p e s m args below meth c hc
  show RM _ _ _ _ _ _ _ _ _ _ _ _ _ _ _ _ _ [(0, .ref (ad 15 14 0)), (1, .int (nI (ii))), (2, .int msk)] []
  refine rm_aload_n hc dX9_sends_0 rfl rfl ?_
  refine rm_aload_n hc dX9_sends_1 rfl rfl ?_
  refine rm_get hc dX9_sends_2 fl_X9_7 dm_14 rfl rfl ?_
  refine rm_iload_n hc dX9_sends_5 rfl rfl ?_
  refine rm_aload_n hc dX9_sends_6 rfl rfl ?_
  refine rm_get hc dX9_sends_7 fl_X9_7 dm_14 rfl rfl ?_
  refine rm_bipush (v := 6) hc dX9_sends_10 (by decide) ?_
  refine rm_iload_n hc dX9_sends_12 rfl rfl ?_
  refine rm_iadd hc dX9_sends_13 (fun v_1 e_1 => ?_)
  obtain rfl : v_1 = (nI (ii + 6)) := e_1.trans (nadd (m := 6) (n := ii) (by omega))
  clear e_1
  refine rm_iald (i := ii + 6) hc dX9_sends_14 (dm_15 (by omega)) rfl (by omega) (by decide) rfl (fun v_2 e_2 => ?_)
  have hnum : v_2 = x 10 (6 + ii) := e_2.trans (by rw [Nat.add_comm])
  refine rm_calliV (As := [.ref (ad 10 15 0), .int msk, .int v_2]) (rest := []) hc dX9_sends_15 (c_X9_heard hI x (k := 10) (by omega) msk v_2 hRS mm (by omega) hw) mv_X9_86 dm_14 rfl rfl (hn := rfl) (hst := rfl) (hw := Nat.le_of_ble_eq_true rfl) (hR := ⟨⟨rfl, rfl⟩, Nat.le_of_ble_eq_true rfl, Nat.le_of_ble_eq_true rfl⟩) (hnc := ⟨Nat.zero_le _, Nat.zero_le _⟩) (fun r_3 y_3 h_3 => ?_)
  obtain ⟨e_3, hM⟩ := h_3
  obtain ⟨bn, hbn, hbe⟩ := send_8 (x := x) (k := 10) (msk := msk) (num := v_2) (mm := mm)
  obtain rfl : r_3 = nI bn := e_3.trans hbe
  refine rm_istore_n (ls' := [(0, .ref (ad 15 14 0)), (1, .int (nI (ii))), (2, .int msk), (3, .int (nI (bn)))]) hc dX9_sends_18 rfl (by decide) rfl ?_
  refine rm_aload_n hc dX9_sends_19 rfl rfl ?_
  refine rm_get hc dX9_sends_20 fl_X9_7 dm_14 rfl rfl ?_
  refine rm_iconst (v := 3) hc dX9_sends_23 (by decide) ?_
  refine rm_dup2 hc dX9_sends_24 rfl rfl ?_
  refine rm_iald (i := 3) hc dX9_sends_25 (dm_15 (by omega)) rfl (by omega) (by decide) rfl (fun v_4 e_4 => ?_)
  refine rm_iconst (v := 1) hc dX9_sends_26 (by decide) ?_
  refine rm_iadd hc dX9_sends_27 (fun v_5 e_5 => ?_)
  refine rm_iast (i := 3) hc dX9_sends_28 (dm_15 (by omega)) rfl (by omega) (by decide) rfl (so_15 (by omega)) (rm_nm (fun x_6 ex_6 => ?_))
  refine rm_aload_n hc dX9_sends_29 rfl rfl ?_
  refine rm_get hc dX9_sends_30 fl_X9_7 dm_14 rfl rfl ?_
  refine rm_iconst (v := 4) hc dX9_sends_33 (by decide) ?_
  refine rm_dup2 hc dX9_sends_34 rfl rfl ?_
  refine rm_iald (i := 4) hc dX9_sends_35 (dm_15 (by omega)) rfl (by omega) (by decide) rfl (fun v_7 e_7 => ?_)
  refine rm_iload_n hc dX9_sends_36 rfl rfl ?_
  refine rm_calliS (As := [.int (nI (bn))]) (rest := [.int v_7, .int 4, .ref (ad 10 15 0)]) hc dX9_sends_37 (c_X9_ones hI x_6 (bn := bn) hbn) ms_X9_89 (hn := rfl) (hst := rfl) (hw := Nat.le_of_ble_eq_true rfl) (hR := ⟨⟨rfl, rfl⟩, Nat.le_of_ble_eq_true rfl, Nat.le_of_ble_eq_true rfl⟩) (hnc := ⟨Nat.zero_le _, Nat.zero_le _⟩) (fun r_8 y_8 h_8 => ?_)
  obtain ⟨e_8, ey_8⟩ := h_8
  obtain rfl := ey_8.symm
  obtain rfl : r_8 = nI (ones3 bn) := e_8
  refine rm_iadd hc dX9_sends_40 (fun v_9 e_9 => ?_)
  refine rm_iast (i := 4) hc dX9_sends_41 (dm_15 (by omega)) rfl (by omega) (by decide) rfl (so_15 (by omega)) (rm_nm (fun x_10 ex_10 => ?_))
  refine rm_iload_n hc dX9_sends_42 rfl rfl ?_
  exact rm_iret hc dX9_sends_43 ⟨by unfold agM; rw [hnum] at hbe; exact hbe.symm, by unfold agM; rw [hnum] at hbe hM; rw [hbe, nI_clamp (by omega)]; subst_vars; exact (hM.upq (by rw [hM.at (by omega)])).upq (by rw [up_n _ _ (by omega), hM.at (by omega)])⟩

abbrev rm_X9_learnt : Room := { frames := 1, cells := 0, slots := 0, locals := 21 }
set_option maxHeartbeats 4000000 in
set_option maxRecDepth 100000 in
theorem c_X9_learnt {l : Launch} {D : va_G} {cy : Nat → ClassId} {ad : Ads} (hI : IJ ad) (x : Mem) {d : Nat} (hd3 : d < 3) : Cti l yX9_learnt cX9_learnt 4 (some .int) rm_X9_learnt D cy ad [.ref (ad 15 14 0), .int (nI (d))] x (fun r y => r = lrM x d ∧ y = x) := by
  refine rm_entry (Qc := Qi D cy ad (fun r y => r = lrM x d ∧ y = x)) hI (by decide) (Nat.le_of_ble_eq_true rfl) ?_
  intro p e s m args below meth c hc
  show RM _ _ _ _ _ _ _ _ _ _ _ _ _ _ _ _ _ [(0, .ref (ad 15 14 0)), (1, .int (nI (d)))] []
  refine rm_iconst (v := 0) hc dX9_learnt_0 (by decide) ?_
  refine rm_istore_n (ls' := [(0, .ref (ad 15 14 0)), (1, .int (nI (d))), (2, .int 0)]) hc dX9_learnt_1 rfl (by decide) rfl ?_
  refine rm_iconst (v := 0) hc dX9_learnt_2 (by decide) ?_
  refine rm_istore_n (ls' := [(0, .ref (ad 15 14 0)), (1, .int (nI (d))), (2, .int 0), (3, .int 0)]) hc dX9_learnt_3 rfl (by decide) rfl ?_
  refine rm_iload_n hc dX9_learnt_4 rfl rfl ?_
  refine rm_iconst (v := 4) hc dX9_learnt_5 (by decide) ?_
  refine rm_icmp_ge (tgt := 28) hc dX9_learnt_6 (by decide) (fun h => absurd h (by decide)) (fun _ => ?_)
  refine rm_iload_n hc dX9_learnt_9 rfl rfl ?_
  refine rm_aload_n hc dX9_learnt_10 rfl rfl ?_
  refine rm_get hc dX9_learnt_11 fl_X9_7 dm_14 rfl rfl ?_
  refine rm_iload_n hc dX9_learnt_14 rfl rfl ?_
  refine rm_iload_n hc dX9_learnt_15 rfl rfl ?_
  refine rm_calliS (As := [.int (nI (d)), .int 0]) (rest := [.ref (ad 10 15 0), .int 0]) hc dX9_learnt_16 (c_X9_slotAt hI x (d := d) (s0 := 0) (by omega) (by omega)) ms_X9_56 (hn := rfl) (hst := rfl) (hw := Nat.le_of_ble_eq_true rfl) (hR := ⟨⟨rfl, rfl⟩, Nat.le_of_ble_eq_true rfl, Nat.le_of_ble_eq_true rfl⟩) (hnc := ⟨Nat.zero_le _, Nat.zero_le _⟩) (fun r_2 y_2 h_2 => ?_)
  obtain ⟨e_2, ey_2⟩ := h_2
  obtain rfl := ey_2.symm
  obtain rfl : r_2 = (nI (36 + 22 * d)) := e_2.trans (congrArg nI (by omega))
  refine rm_iald (i := 36 + 22 * d) hc dX9_learnt_19 (dm_15 (by omega)) rfl (by omega) (by decide) rfl (fun v_3 e_3 => ?_)
  refine rm_iadd hc dX9_learnt_20 (fun v_4 e_4 => ?_)
  refine rm_istore_n (ls' := [(0, .ref (ad 15 14 0)), (1, .int (nI (d))), (2, .int v_4), (3, .int 0)]) hc dX9_learnt_21 rfl (by decide) rfl ?_
  refine rm_iinc (v := 1) (ls' := [(0, .ref (ad 15 14 0)), (1, .int (nI (d))), (2, .int v_4), (3, .int 1)]) hc dX9_learnt_22 rfl (by decide) (by decide) rfl ?_
  refine rm_goto (tgt := 4) hc dX9_learnt_25 (by decide) ?_
  refine rm_iload_n hc dX9_learnt_4 rfl rfl ?_
  refine rm_iconst (v := 4) hc dX9_learnt_5 (by decide) ?_
  refine rm_icmp_ge (tgt := 28) hc dX9_learnt_6 (by decide) (fun h => absurd h (by decide)) (fun _ => ?_)
  refine rm_iload_n hc dX9_learnt_9 rfl rfl ?_
  refine rm_aload_n hc dX9_learnt_10 rfl rfl ?_
  refine rm_get hc dX9_learnt_11 fl_X9_7 dm_14 rfl rfl ?_
  refine rm_iload_n hc dX9_learnt_14 rfl rfl ?_
  refine rm_iload_n hc dX9_learnt_15 rfl rfl ?_
  refine rm_calliS (As := [.int (nI (d)), .int 1]) (rest := [.ref (ad 10 15 0), .int v_4]) hc dX9_learnt_16 (c_X9_slotAt hI x (d := d) (s0 := 1) (by omega) (by omega)) ms_X9_56 (hn := rfl) (hst := rfl) (hw := Nat.le_of_ble_eq_true rfl) (hR := ⟨⟨rfl, rfl⟩, Nat.le_of_ble_eq_true rfl, Nat.le_of_ble_eq_true rfl⟩) (hnc := ⟨Nat.zero_le _, Nat.zero_le _⟩) (fun r_6 y_6 h_6 => ?_)
  obtain ⟨e_6, ey_6⟩ := h_6
  obtain rfl := ey_6.symm
  obtain rfl : r_6 = (nI (40 + 22 * d)) := e_6.trans (congrArg nI (by omega))
  refine rm_iald (i := 40 + 22 * d) hc dX9_learnt_19 (dm_15 (by omega)) rfl (by omega) (by decide) rfl (fun v_7 e_7 => ?_)
  refine rm_iadd hc dX9_learnt_20 (fun v_8 e_8 => ?_)
  refine rm_istore_n (ls' := [(0, .ref (ad 15 14 0)), (1, .int (nI (d))), (2, .int v_8), (3, .int 1)]) hc dX9_learnt_21 rfl (by decide) rfl ?_
  refine rm_iinc (v := 2) (ls' := [(0, .ref (ad 15 14 0)), (1, .int (nI (d))), (2, .int v_8), (3, .int 2)]) hc dX9_learnt_22 rfl (by decide) (by decide) rfl ?_
  refine rm_goto (tgt := 4) hc dX9_learnt_25 (by decide) ?_
  refine rm_iload_n hc dX9_learnt_4 rfl rfl ?_
  refine rm_iconst (v := 4) hc dX9_learnt_5 (by decide) ?_
  refine rm_icmp_ge (tgt := 28) hc dX9_learnt_6 (by decide) (fun h => absurd h (by decide)) (fun _ => ?_)
  refine rm_iload_n hc dX9_learnt_9 rfl rfl ?_
  refine rm_aload_n hc dX9_learnt_10 rfl rfl ?_
  refine rm_get hc dX9_learnt_11 fl_X9_7 dm_14 rfl rfl ?_
  refine rm_iload_n hc dX9_learnt_14 rfl rfl ?_
  refine rm_iload_n hc dX9_learnt_15 rfl rfl ?_
  refine rm_calliS (As := [.int (nI (d)), .int 2]) (rest := [.ref (ad 10 15 0), .int v_8]) hc dX9_learnt_16 (c_X9_slotAt hI x (d := d) (s0 := 2) (by omega) (by omega)) ms_X9_56 (hn := rfl) (hst := rfl) (hw := Nat.le_of_ble_eq_true rfl) (hR := ⟨⟨rfl, rfl⟩, Nat.le_of_ble_eq_true rfl, Nat.le_of_ble_eq_true rfl⟩) (hnc := ⟨Nat.zero_le _, Nat.zero_le _⟩) (fun r_10 y_10 h_10 => ?_)
  obtain ⟨e_10, ey_10⟩ := h_10
  obtain rfl := ey_10.symm
  obtain rfl : r_10 = (nI (44 + 22 * d)) := e_10.trans (congrArg nI (by omega))
  refine rm_iald (i := 44 + 22 * d) hc dX9_learnt_19 (dm_15 (by omega)) rfl (by omega) (by decide) rfl (fun v_11 e_11 => ?_)
  refine rm_iadd hc dX9_learnt_20 (fun v_12 e_12 => ?_)
  refine rm_istore_n (ls' := [(0, .ref (ad 15 14 0)), (1, .int (nI (d))), (2, .int v_12), (3, .int 2)]) hc dX9_learnt_21 rfl (by decide) rfl ?_
  refine rm_iinc (v := 3) (ls' := [(0, .ref (ad 15 14 0)), (1, .int (nI (d))), (2, .int v_12), (3, .int 3)]) hc dX9_learnt_22 rfl (by decide) (by decide) rfl ?_
  refine rm_goto (tgt := 4) hc dX9_learnt_25 (by decide) ?_
  refine rm_iload_n hc dX9_learnt_4 rfl rfl ?_
  refine rm_iconst (v := 4) hc dX9_learnt_5 (by decide) ?_
  refine rm_icmp_ge (tgt := 28) hc dX9_learnt_6 (by decide) (fun h => absurd h (by decide)) (fun _ => ?_)
  refine rm_iload_n hc dX9_learnt_9 rfl rfl ?_
  refine rm_aload_n hc dX9_learnt_10 rfl rfl ?_
  refine rm_get hc dX9_learnt_11 fl_X9_7 dm_14 rfl rfl ?_
  refine rm_iload_n hc dX9_learnt_14 rfl rfl ?_
  refine rm_iload_n hc dX9_learnt_15 rfl rfl ?_
  refine rm_calliS (As := [.int (nI (d)), .int 3]) (rest := [.ref (ad 10 15 0), .int v_12]) hc dX9_learnt_16 (c_X9_slotAt hI x (d := d) (s0 := 3) (by omega) (by omega)) ms_X9_56 (hn := rfl) (hst := rfl) (hw := Nat.le_of_ble_eq_true rfl) (hR := ⟨⟨rfl, rfl⟩, Nat.le_of_ble_eq_true rfl, Nat.le_of_ble_eq_true rfl⟩) (hnc := ⟨Nat.zero_le _, Nat.zero_le _⟩) (fun r_14 y_14 h_14 => ?_)
  obtain ⟨e_14, ey_14⟩ := h_14
  obtain rfl := ey_14.symm
  obtain rfl : r_14 = (nI (48 + 22 * d)) := e_14.trans (congrArg nI (by omega))
  refine rm_iald (i := 48 + 22 * d) hc dX9_learnt_19 (dm_15 (by omega)) rfl (by omega) (by decide) rfl (fun v_15 e_15 => ?_)
  refine rm_iadd hc dX9_learnt_20 (fun v_16 e_16 => ?_)
  refine rm_istore_n (ls' := [(0, .ref (ad 15 14 0)), (1, .int (nI (d))), (2, .int v_16), (3, .int 3)]) hc dX9_learnt_21 rfl (by decide) rfl ?_
  refine rm_iinc (v := 4) (ls' := [(0, .ref (ad 15 14 0)), (1, .int (nI (d))), (2, .int v_16), (3, .int 4)]) hc dX9_learnt_22 rfl (by decide) (by decide) rfl ?_
  refine rm_goto (tgt := 4) hc dX9_learnt_25 (by decide) ?_
  refine rm_iload_n hc dX9_learnt_4 rfl rfl ?_
  refine rm_iconst (v := 4) hc dX9_learnt_5 (by decide) ?_
  refine rm_icmp_ge (tgt := 28) hc dX9_learnt_6 (by decide) (fun _ => ?_) (fun h => absurd (by decide) h)
  refine rm_iload_n hc dX9_learnt_28 rfl rfl ?_
  exact rm_iret hc dX9_learnt_29 ⟨by subst_vars; rfl, rfl⟩

abbrev rm_X9_ofFob : Room := { frames := 2, cells := 0, slots := 0, locals := 42 }
set_option maxHeartbeats 4000000 in
set_option maxRecDepth 100000 in
theorem c_X9_ofFob {l : Launch} {D : va_G} {cy : Nat → ClassId} {ad : Ads} (hI : IJ ad) (x : Mem) {j : Nat} (hj : j < 4) : Cti l yX9_ofFob cX9_ofFob 3 (some .int) rm_X9_ofFob D cy ad [.ref (ad 15 14 0), .int (nI (j)), .int 0] x (fun r y => r = ofF x j 0 ∧ y = x) := by
  refine rm_entry (Qc := Qi D cy ad (fun r y => r = ofF x j 0 ∧ y = x)) hI (by decide) (Nat.le_of_ble_eq_true rfl) ?_
  intro p e s m args below meth c hc
  show RM _ _ _ _ _ _ _ _ _ _ _ _ _ _ _ _ _ [(0, .ref (ad 15 14 0)), (1, .int (nI (j))), (2, .int 0)] []
  refine rm_iload_n hc dX9_ofFob_0 rfl rfl ?_
  refine rm_iconst (v := 3) hc dX9_ofFob_1 (by decide) ?_
  refine rm_icmp_ne (tgt := 16) hc dX9_ofFob_2 (by decide) (fun _ => ?_) (fun h => absurd h (by decide))
  refine rm_aload_n hc dX9_ofFob_16 rfl rfl ?_
  refine rm_get hc dX9_ofFob_17 fl_X9_7 dm_14 rfl rfl ?_
  refine rm_bipush (v := 14) hc dX9_ofFob_20 (by decide) ?_
  refine rm_iconst (v := 4) hc dX9_ofFob_22 (by decide) ?_
  refine rm_iload_n hc dX9_ofFob_23 rfl rfl ?_
  refine rm_imul hc dX9_ofFob_24 (fun v_2 e_2 => ?_)
  obtain rfl : v_2 = (nI (4 * j)) := e_2.trans (nmul (m := 4) (n := j) (by omega))
  clear e_2
  refine rm_iadd hc dX9_ofFob_25 (fun v_3 e_3 => ?_)
  obtain rfl : v_3 = (nI (14 + 4 * j)) := e_3.trans (nadd (m := 14) (n := 4 * j) (by omega))
  clear e_3
  refine rm_iload_n hc dX9_ofFob_26 rfl rfl ?_
  refine rm_iconst (v := 4) hc dX9_ofFob_27 (by decide) ?_
  refine rm_icmp_ne (tgt := 35) hc dX9_ofFob_28 (by decide) (fun _ => ?_) (fun h => absurd h (by decide))
  refine rm_iload_n hc dX9_ofFob_35 rfl rfl ?_
  refine rm_iadd hc dX9_ofFob_36 (fun v_5 e_5 => ?_)
  obtain rfl : v_5 = (nI (14 + 4 * j)) := e_5.trans (nadd (m := 14 + 4 * j) (n := 0) (by omega))
  clear e_5
  refine rm_iald (i := 14 + 4 * j) hc dX9_ofFob_37 (dm_15 (by omega)) rfl (by omega) (by decide) rfl (fun v_6 e_6 => ?_)
  exact rm_iret hc dX9_ofFob_38 ⟨by subst_vars; simp [ofF], rfl⟩

set_option maxHeartbeats 4000000 in
set_option maxRecDepth 100000 in
theorem c_X9_ofFob_1 {l : Launch} {D : va_G} {cy : Nat → ClassId} {ad : Ads} (hI : IJ ad) (x : Mem) {j : Nat} (hj : j < 4) : Cti l yX9_ofFob cX9_ofFob 3 (some .int) rm_X9_ofFob D cy ad [.ref (ad 15 14 0), .int (nI (j)), .int 1] x (fun r y => r = ofF x j 1 ∧ y = x) := by
  refine rm_entry (Qc := Qi D cy ad (fun r y => r = ofF x j 1 ∧ y = x)) hI (by decide) (Nat.le_of_ble_eq_true rfl) ?_
  intro p e s m args below meth c hc
  show RM _ _ _ _ _ _ _ _ _ _ _ _ _ _ _ _ _ [(0, .ref (ad 15 14 0)), (1, .int (nI (j))), (2, .int 1)] []
  refine rm_iload_n hc dX9_ofFob_0 rfl rfl ?_
  refine rm_iconst (v := 3) hc dX9_ofFob_1 (by decide) ?_
  refine rm_icmp_ne (tgt := 16) hc dX9_ofFob_2 (by decide) (fun _ => ?_) (fun h => absurd h (by decide))
  refine rm_aload_n hc dX9_ofFob_16 rfl rfl ?_
  refine rm_get hc dX9_ofFob_17 fl_X9_7 dm_14 rfl rfl ?_
  refine rm_bipush (v := 14) hc dX9_ofFob_20 (by decide) ?_
  refine rm_iconst (v := 4) hc dX9_ofFob_22 (by decide) ?_
  refine rm_iload_n hc dX9_ofFob_23 rfl rfl ?_
  refine rm_imul hc dX9_ofFob_24 (fun v_2 e_2 => ?_)
  obtain rfl : v_2 = (nI (4 * j)) := e_2.trans (nmul (m := 4) (n := j) (by omega))
  clear e_2
  refine rm_iadd hc dX9_ofFob_25 (fun v_3 e_3 => ?_)
  obtain rfl : v_3 = (nI (14 + 4 * j)) := e_3.trans (nadd (m := 14) (n := 4 * j) (by omega))
  clear e_3
  refine rm_iload_n hc dX9_ofFob_26 rfl rfl ?_
  refine rm_iconst (v := 4) hc dX9_ofFob_27 (by decide) ?_
  refine rm_icmp_ne (tgt := 35) hc dX9_ofFob_28 (by decide) (fun _ => ?_) (fun h => absurd h (by decide))
  refine rm_iload_n hc dX9_ofFob_35 rfl rfl ?_
  refine rm_iadd hc dX9_ofFob_36 (fun v_5 e_5 => ?_)
  obtain rfl : v_5 = (nI (15 + 4 * j)) := e_5.trans (nadd (m := 14 + 4 * j) (n := 1) (by omega))
  clear e_5
  refine rm_iald (i := 15 + 4 * j) hc dX9_ofFob_37 (dm_15 (by omega)) rfl (by omega) (by decide) rfl (fun v_6 e_6 => ?_)
  exact rm_iret hc dX9_ofFob_38 ⟨by subst_vars; simp [ofF]; congr 1; omega, rfl⟩

set_option maxHeartbeats 4000000 in
set_option maxRecDepth 100000 in
theorem c_X9_ofFob_2 {l : Launch} {D : va_G} {cy : Nat → ClassId} {ad : Ads} (hI : IJ ad) (x : Mem) {j : Nat} (hj : j < 4) : Cti l yX9_ofFob cX9_ofFob 3 (some .int) rm_X9_ofFob D cy ad [.ref (ad 15 14 0), .int (nI (j)), .int 2] x (fun r y => r = ofF x j 2 ∧ y = x) := by
  refine rm_entry (Qc := Qi D cy ad (fun r y => r = ofF x j 2 ∧ y = x)) hI (by decide) (Nat.le_of_ble_eq_true rfl) ?_
  intro p e s m args below meth c hc
  show RM _ _ _ _ _ _ _ _ _ _ _ _ _ _ _ _ _ [(0, .ref (ad 15 14 0)), (1, .int (nI (j))), (2, .int 2)] []
  refine rm_iload_n hc dX9_ofFob_0 rfl rfl ?_
  refine rm_iconst (v := 3) hc dX9_ofFob_1 (by decide) ?_
  refine rm_icmp_ne (tgt := 16) hc dX9_ofFob_2 (by decide) (fun _ => ?_) (fun h => absurd h (by decide))
  refine rm_aload_n hc dX9_ofFob_16 rfl rfl ?_
  refine rm_get hc dX9_ofFob_17 fl_X9_7 dm_14 rfl rfl ?_
  refine rm_bipush (v := 14) hc dX9_ofFob_20 (by decide) ?_
  refine rm_iconst (v := 4) hc dX9_ofFob_22 (by decide) ?_
  refine rm_iload_n hc dX9_ofFob_23 rfl rfl ?_
  refine rm_imul hc dX9_ofFob_24 (fun v_2 e_2 => ?_)
  obtain rfl : v_2 = (nI (4 * j)) := e_2.trans (nmul (m := 4) (n := j) (by omega))
  clear e_2
  refine rm_iadd hc dX9_ofFob_25 (fun v_3 e_3 => ?_)
  obtain rfl : v_3 = (nI (14 + 4 * j)) := e_3.trans (nadd (m := 14) (n := 4 * j) (by omega))
  clear e_3
  refine rm_iload_n hc dX9_ofFob_26 rfl rfl ?_
  refine rm_iconst (v := 4) hc dX9_ofFob_27 (by decide) ?_
  refine rm_icmp_ne (tgt := 35) hc dX9_ofFob_28 (by decide) (fun _ => ?_) (fun h => absurd h (by decide))
  refine rm_iload_n hc dX9_ofFob_35 rfl rfl ?_
  refine rm_iadd hc dX9_ofFob_36 (fun v_5 e_5 => ?_)
  obtain rfl : v_5 = (nI (16 + 4 * j)) := e_5.trans (nadd (m := 14 + 4 * j) (n := 2) (by omega))
  clear e_5
  refine rm_iald (i := 16 + 4 * j) hc dX9_ofFob_37 (dm_15 (by omega)) rfl (by omega) (by decide) rfl (fun v_6 e_6 => ?_)
  exact rm_iret hc dX9_ofFob_38 ⟨by subst_vars; simp [ofF]; congr 1; omega, rfl⟩

set_option maxHeartbeats 4000000 in
set_option maxRecDepth 100000 in
theorem c_X9_ofFob_3 {l : Launch} {D : va_G} {cy : Nat → ClassId} {ad : Ads} (hI : IJ ad) (x : Mem) {j : Nat} (hj : j < 4) (hRF : RF (x 10)) : Cti l yX9_ofFob cX9_ofFob 3 (some .int) rm_X9_ofFob D cy ad [.ref (ad 15 14 0), .int (nI (j)), .int 3] x (fun r y => r = ofF x j 3 ∧ y = x) := by
  refine rm_entry (Qc := Qi D cy ad (fun r y => r = ofF x j 3 ∧ y = x)) hI (by decide) (Nat.le_of_ble_eq_true rfl) ?_
  intro p e s m args below meth c hc
  show RM _ _ _ _ _ _ _ _ _ _ _ _ _ _ _ _ _ [(0, .ref (ad 15 14 0)), (1, .int (nI (j))), (2, .int 3)] []
  refine rm_iload_n hc dX9_ofFob_0 rfl rfl ?_
  refine rm_iconst (v := 3) hc dX9_ofFob_1 (by decide) ?_
  refine rm_icmp_ne (tgt := 16) hc dX9_ofFob_2 (by decide) (fun h => absurd h (by decide)) (fun _ => ?_)
  refine rm_aload_n hc dX9_ofFob_5 rfl rfl ?_
  refine rm_get hc dX9_ofFob_6 fl_X9_7 dm_14 rfl rfl ?_
  refine rm_iload_n hc dX9_ofFob_9 rfl rfl ?_
  refine rm_calliS (As := [.ref (ad 10 15 0), .int (nI (j))]) (rest := []) hc dX9_ofFob_10 (c_X9_next hI x (k := 10) (j := j) (by omega) (by omega) hRF) ms_X9_82 (hn := rfl) (hst := rfl) (hw := Nat.le_of_ble_eq_true rfl) (hR := ⟨⟨rfl, rfl⟩, Nat.le_of_ble_eq_true rfl, Nat.le_of_ble_eq_true rfl⟩) (hnc := ⟨Nat.zero_le _, Nat.zero_le _⟩) (fun r_2 y_2 h_2 => ?_)
  obtain ⟨e_2, ey_2⟩ := h_2
  obtain rfl := ey_2.symm
  refine rm_goto (tgt := 38) hc dX9_ofFob_13 (by decide) ?_
  exact rm_iret hc dX9_ofFob_38 ⟨e_2, rfl⟩

set_option maxHeartbeats 4000000 in
set_option maxRecDepth 100000 in
theorem c_X9_ofFob_4 {l : Launch} {D : va_G} {cy : Nat → ClassId} {ad : Ads} (hI : IJ ad) (x : Mem) {j : Nat} (hj : j < 4) : Cti l yX9_ofFob cX9_ofFob 3 (some .int) rm_X9_ofFob D cy ad [.ref (ad 15 14 0), .int (nI (j)), .int 4] x (fun r y => r = ofF x j 4 ∧ y = x) := by
  refine rm_entry (Qc := Qi D cy ad (fun r y => r = ofF x j 4 ∧ y = x)) hI (by decide) (Nat.le_of_ble_eq_true rfl) ?_
  intro p e s m args below meth c hc
  show RM _ _ _ _ _ _ _ _ _ _ _ _ _ _ _ _ _ [(0, .ref (ad 15 14 0)), (1, .int (nI (j))), (2, .int 4)] []
  refine rm_iload_n hc dX9_ofFob_0 rfl rfl ?_
  refine rm_iconst (v := 3) hc dX9_ofFob_1 (by decide) ?_
  refine rm_icmp_ne (tgt := 16) hc dX9_ofFob_2 (by decide) (fun _ => ?_) (fun h => absurd h (by decide))
  refine rm_aload_n hc dX9_ofFob_16 rfl rfl ?_
  refine rm_get hc dX9_ofFob_17 fl_X9_7 dm_14 rfl rfl ?_
  refine rm_bipush (v := 14) hc dX9_ofFob_20 (by decide) ?_
  refine rm_iconst (v := 4) hc dX9_ofFob_22 (by decide) ?_
  refine rm_iload_n hc dX9_ofFob_23 rfl rfl ?_
  refine rm_imul hc dX9_ofFob_24 (fun v_2 e_2 => ?_)
  obtain rfl : v_2 = (nI (4 * j)) := e_2.trans (nmul (m := 4) (n := j) (by omega))
  clear e_2
  refine rm_iadd hc dX9_ofFob_25 (fun v_3 e_3 => ?_)
  obtain rfl : v_3 = (nI (14 + 4 * j)) := e_3.trans (nadd (m := 14) (n := 4 * j) (by omega))
  clear e_3
  refine rm_iload_n hc dX9_ofFob_26 rfl rfl ?_
  refine rm_iconst (v := 4) hc dX9_ofFob_27 (by decide) ?_
  refine rm_icmp_ne (tgt := 35) hc dX9_ofFob_28 (by decide) (fun h => absurd h (by decide)) (fun _ => ?_)
  refine rm_iconst (v := 3) hc dX9_ofFob_31 (by decide) ?_
  refine rm_goto (tgt := 36) hc dX9_ofFob_32 (by decide) ?_
  refine rm_iadd hc dX9_ofFob_36 (fun v_5 e_5 => ?_)
  obtain rfl : v_5 = (nI (17 + 4 * j)) := e_5.trans (nadd (m := 14 + 4 * j) (n := 3) (by omega))
  clear e_5
  refine rm_iald (i := 17 + 4 * j) hc dX9_ofFob_37 (dm_15 (by omega)) rfl (by omega) (by decide) rfl (fun v_6 e_6 => ?_)
  exact rm_iret hc dX9_ofFob_38 ⟨by subst_vars; simp [ofF], rfl⟩

abbrev rm_X9_ofSlot : Room := { frames := 1, cells := 0, slots := 0, locals := 21 }
set_option maxHeartbeats 4000000 in
set_option maxRecDepth 100000 in
theorem c_X9_ofSlot {l : Launch} {D : va_G} {cy : Nat → ClassId} {ad : Ads} (hI : IJ ad) (x : Mem) {d s0 w : Nat} (hd3 : d < 3) (hs : s0 < 4) (hw4 : w < 4) : Cti l yX9_ofSlot cX9_ofSlot 5 (some .int) rm_X9_ofSlot D cy ad [.ref (ad 15 14 0), .int (nI (d)), .int (nI (s0)), .int (nI (w))] x (fun r y => r = ofS x d s0 w ∧ y = x) := by
  refine rm_entry (Qc := Qi D cy ad (fun r y => r = ofS x d s0 w ∧ y = x)) hI (by decide) (Nat.le_of_ble_eq_true rfl) ?_
  intro p e s m args below meth c hc
  show RM _ _ _ _ _ _ _ _ _ _ _ _ _ _ _ _ _ [(0, .ref (ad 15 14 0)), (1, .int (nI (d))), (2, .int (nI (s0))), (3, .int (nI (w)))] []
  refine rm_iload_n hc dX9_ofSlot_0 rfl rfl ?_
  refine rm_iload_n hc dX9_ofSlot_1 rfl rfl ?_
  refine rm_calliS (As := [.int (nI (d)), .int (nI (s0))]) (rest := []) hc dX9_ofSlot_2 (c_X9_slotAt hI x (d := d) (s0 := s0) (by omega) (by omega)) ms_X9_56 (hn := rfl) (hst := rfl) (hw := Nat.le_of_ble_eq_true rfl) (hR := ⟨⟨rfl, rfl⟩, Nat.le_of_ble_eq_true rfl, Nat.le_of_ble_eq_true rfl⟩) (hnc := ⟨Nat.zero_le _, Nat.zero_le _⟩) (fun r_1 y_1 h_1 => ?_)
  obtain ⟨e_1, ey_1⟩ := h_1
  obtain rfl := ey_1.symm
  obtain rfl : r_1 = (nI (36 + 22 * d + 4 * s0)) := e_1
  refine rm_istore (ls' := [(0, .ref (ad 15 14 0)), (1, .int (nI (d))), (2, .int (nI (s0))), (3, .int (nI (w))), (4, .int (nI (36 + 22 * d + 4 * s0)))]) hc dX9_ofSlot_5 (by decide) rfl ?_
  refine rm_aload_n hc dX9_ofSlot_7 rfl rfl ?_
  refine rm_get hc dX9_ofSlot_8 fl_X9_7 dm_14 rfl rfl ?_
  refine rm_iload hc dX9_ofSlot_11 rfl ?_
  refine rm_iald (i := 36 + 22 * d + 4 * s0) hc dX9_ofSlot_13 (dm_15 (by omega)) rfl (by omega) (by decide) rfl (fun v_2 e_2 => ?_)
  refine rm_iconst (v := 1) hc dX9_ofSlot_14 (by decide) ?_
  refine rm_icmp_ne (tgt := 30) hc dX9_ofSlot_15 (by decide) (fun c_3 => ?_) (fun c_3 => ?_)
  · --
    have hl : ¬ x 10 (36 + 22 * d + 4 * s0) = 1 := fun h => c_3 (e_2.trans h)
    refine rm_iload_n hc dX9_ofSlot_30 rfl rfl ?_
    rcases Nat.eq_zero_or_pos w with hz | hz
    · --
      subst hz
      refine rm_if_ne (tgt := 38) hc dX9_ofSlot_31 (by decide) (fun h => absurd rfl h) (fun _ => ?_)
      refine rm_iconst (v := 0) hc dX9_ofSlot_34 (by decide) ?_
      refine rm_goto (tgt := 39) hc dX9_ofSlot_35 (by decide) ?_
      exact rm_iret hc dX9_ofSlot_39 ⟨by unfold ofS; rw [if_neg hl]; rfl, rfl⟩
    · --
      refine rm_if_ne (tgt := 38) hc dX9_ofSlot_31 (by decide) (fun _ => ?_) (fun h => absurd h (fun h2 => absurd ((nI_eq (a := w) (b := 0) (by omega) (by omega)).mp h2) (by omega)))
      refine rm_iconst (v := -1) hc dX9_ofSlot_38 (by decide) ?_
      exact rm_iret hc dX9_ofSlot_39 ⟨by unfold ofS; rw [if_neg hl, if_neg (by omega)], rfl⟩
  · --
    have hl : x 10 (36 + 22 * d + 4 * s0) = 1 := e_2.symm.trans c_3
    refine rm_aload_n hc dX9_ofSlot_18 rfl rfl ?_
    refine rm_get hc dX9_ofSlot_19 fl_X9_7 dm_14 rfl rfl ?_
    refine rm_iload hc dX9_ofSlot_22 rfl ?_
    refine rm_iload_n hc dX9_ofSlot_24 rfl rfl ?_
    refine rm_iadd hc dX9_ofSlot_25 (fun v_5 e_5 => ?_)
    obtain rfl : v_5 = (nI (36 + 22 * d + 4 * s0 + w)) := e_5.trans (nadd (m := 36 + 22 * d + 4 * s0) (n := w) (by omega))
    clear e_5
    refine rm_iald (i := 36 + 22 * d + 4 * s0 + w) hc dX9_ofSlot_26 (dm_15 (by omega)) rfl (by omega) (by decide) rfl (fun v_6 e_6 => ?_)
    refine rm_goto (tgt := 39) hc dX9_ofSlot_27 (by decide) ?_
    exact rm_iret hc dX9_ofSlot_39 ⟨by rw [e_6]; unfold ofS; rw [if_pos hl], rfl⟩

abbrev rm_X9_ofDoor : Room := { frames := 2, cells := 0, slots := 0, locals := 44 }
set_option maxHeartbeats 4000000 in
set_option maxRecDepth 100000 in
theorem c_X9_ofDoor {l : Launch} {D : va_G} {cy : Nat → ClassId} {ad : Ads} (hI : IJ ad) (x : Mem) {d : Nat} (hd3 : d < 3) : Cti l yX9_ofDoor cX9_ofDoor 3 (some .int) rm_X9_ofDoor D cy ad [.ref (ad 15 14 0), .int (nI (d)), .int 0] x (fun r y => r = ofD x d 0 ∧ y = x) := by
  refine rm_entry (Qc := Qi D cy ad (fun r y => r = ofD x d 0 ∧ y = x)) hI (by decide) (Nat.le_of_ble_eq_true rfl) ?_
  intro p e s m args below meth c hc
  show RM _ _ _ _ _ _ _ _ _ _ _ _ _ _ _ _ _ [(0, .ref (ad 15 14 0)), (1, .int (nI (d))), (2, .int 0)] []
  refine rm_iload_n hc dX9_ofDoor_0 rfl rfl ?_
  refine rm_tin (off := 31) (tgt := 32) hc dX9_ofDoor_1 (by decide) (by decide) (by decide) (by decide) ?_
  refine rm_aload_n hc dX9_ofDoor_32 rfl rfl ?_
  refine rm_get hc dX9_ofDoor_33 fl_X9_7 dm_14 rfl rfl ?_
  refine rm_bipush (v := 30) hc dX9_ofDoor_36 (by decide) ?_
  refine rm_bipush (v := 22) hc dX9_ofDoor_38 (by decide) ?_
  refine rm_iload_n hc dX9_ofDoor_40 rfl rfl ?_
  refine rm_imul hc dX9_ofDoor_41 (fun v_1 e_1 => ?_)
  obtain rfl : v_1 = (nI (22 * d)) := e_1.trans (nmul (m := 22) (n := d) (by omega))
  clear e_1
  refine rm_iadd hc dX9_ofDoor_42 (fun v_2 e_2 => ?_)
  obtain rfl : v_2 = (nI (30 + 22 * d)) := e_2.trans (nadd (m := 30) (n := 22 * d) (by omega))
  clear e_2
  refine rm_iload_n hc dX9_ofDoor_43 rfl rfl ?_
  refine rm_iadd hc dX9_ofDoor_44 (fun v_3 e_3 => ?_)
  obtain rfl : v_3 = (nI (30 + 22 * d)) := e_3.trans (nadd (m := 30 + 22 * d) (n := 0) (by omega))
  clear e_3
  refine rm_iald (i := 30 + 22 * d) hc dX9_ofDoor_45 (dm_15 (by omega)) rfl (by omega) (by decide) rfl (fun v_4 e_4 => ?_)
  exact rm_iret hc dX9_ofDoor_46 ⟨e_4, rfl⟩

set_option maxHeartbeats 4000000 in
set_option maxRecDepth 100000 in
theorem c_X9_ofDoor_1 {l : Launch} {D : va_G} {cy : Nat → ClassId} {ad : Ads} (hI : IJ ad) (x : Mem) {d : Nat} (hd3 : d < 3) : Cti l yX9_ofDoor cX9_ofDoor 3 (some .int) rm_X9_ofDoor D cy ad [.ref (ad 15 14 0), .int (nI (d)), .int 1] x (fun r y => r = ofD x d 1 ∧ y = x) := by
  refine rm_entry (Qc := Qi D cy ad (fun r y => r = ofD x d 1 ∧ y = x)) hI (by decide) (Nat.le_of_ble_eq_true rfl) ?_
  intro p e s m args below meth c hc
  show RM _ _ _ _ _ _ _ _ _ _ _ _ _ _ _ _ _ [(0, .ref (ad 15 14 0)), (1, .int (nI (d))), (2, .int 1)] []
  refine rm_iload_n hc dX9_ofDoor_0 rfl rfl ?_
  refine rm_tin (off := 31) (tgt := 32) hc dX9_ofDoor_1 (by decide) (by decide) (by decide) (by decide) ?_
  refine rm_aload_n hc dX9_ofDoor_32 rfl rfl ?_
  refine rm_get hc dX9_ofDoor_33 fl_X9_7 dm_14 rfl rfl ?_
  refine rm_bipush (v := 30) hc dX9_ofDoor_36 (by decide) ?_
  refine rm_bipush (v := 22) hc dX9_ofDoor_38 (by decide) ?_
  refine rm_iload_n hc dX9_ofDoor_40 rfl rfl ?_
  refine rm_imul hc dX9_ofDoor_41 (fun v_1 e_1 => ?_)
  obtain rfl : v_1 = (nI (22 * d)) := e_1.trans (nmul (m := 22) (n := d) (by omega))
  clear e_1
  refine rm_iadd hc dX9_ofDoor_42 (fun v_2 e_2 => ?_)
  obtain rfl : v_2 = (nI (30 + 22 * d)) := e_2.trans (nadd (m := 30) (n := 22 * d) (by omega))
  clear e_2
  refine rm_iload_n hc dX9_ofDoor_43 rfl rfl ?_
  refine rm_iadd hc dX9_ofDoor_44 (fun v_3 e_3 => ?_)
  obtain rfl : v_3 = (nI (31 + 22 * d)) := e_3.trans (nadd (m := 30 + 22 * d) (n := 1) (by omega))
  clear e_3
  refine rm_iald (i := 31 + 22 * d) hc dX9_ofDoor_45 (dm_15 (by omega)) rfl (by omega) (by decide) rfl (fun v_4 e_4 => ?_)
  exact rm_iret hc dX9_ofDoor_46 ⟨by rw [e_4]; unfold ofD; rw [if_pos (by omega)]; congr 1; omega, rfl⟩

set_option maxHeartbeats 4000000 in
set_option maxRecDepth 100000 in
theorem c_X9_ofDoor_2 {l : Launch} {D : va_G} {cy : Nat → ClassId} {ad : Ads} (hI : IJ ad) (x : Mem) {d : Nat} (hd3 : d < 3) : Cti l yX9_ofDoor cX9_ofDoor 3 (some .int) rm_X9_ofDoor D cy ad [.ref (ad 15 14 0), .int (nI (d)), .int 2] x (fun r y => r = ofD x d 2 ∧ y = x) := by
  refine rm_entry (Qc := Qi D cy ad (fun r y => r = ofD x d 2 ∧ y = x)) hI (by decide) (Nat.le_of_ble_eq_true rfl) ?_
  intro p e s m args below meth c hc
  show RM _ _ _ _ _ _ _ _ _ _ _ _ _ _ _ _ _ [(0, .ref (ad 15 14 0)), (1, .int (nI (d))), (2, .int 2)] []
  refine rm_iload_n hc dX9_ofDoor_0 rfl rfl ?_
  refine rm_tin (off := 46) (tgt := 47) hc dX9_ofDoor_1 (by decide) (by decide) (by decide) (by decide) ?_
  refine rm_aload_n hc dX9_ofDoor_47 rfl rfl ?_
  refine rm_get hc dX9_ofDoor_48 fl_X9_7 dm_14 rfl rfl ?_
  refine rm_iload_n hc dX9_ofDoor_51 rfl rfl ?_
  refine rm_calliS (As := [.ref (ad 10 15 0), .int (nI (d))]) (rest := []) hc dX9_ofDoor_52 (c_X9_isLocked hI x (k := 10) (d := d) (by omega) (by omega)) ms_X9_66 (hn := rfl) (hst := rfl) (hw := Nat.le_of_ble_eq_true rfl) (hR := ⟨⟨rfl, rfl⟩, Nat.le_of_ble_eq_true rfl, Nat.le_of_ble_eq_true rfl⟩) (hnc := ⟨Nat.zero_le _, Nat.zero_le _⟩) (fun r_1 y_1 h_1 => ?_)
  obtain ⟨e_1, ey_1⟩ := h_1
  obtain rfl := ey_1.symm
  refine rm_if_eq (tgt := 62) hc dX9_ofDoor_55 (by decide) (fun c_2 => ?_) (fun c_2 => ?_)
  · --T
    refine rm_iconst (v := 0) hc dX9_ofDoor_62 (by decide) ?_
    exact rm_iret hc dX9_ofDoor_63 ⟨by unfold ofD; rw [if_neg (by omega), if_pos rfl]; subst_vars; simp [*], rfl⟩
  · --F
    refine rm_iconst (v := 1) hc dX9_ofDoor_58 (by decide) ?_
    refine rm_goto (tgt := 63) hc dX9_ofDoor_59 (by decide) ?_
    exact rm_iret hc dX9_ofDoor_63 ⟨by unfold ofD; rw [if_neg (by omega), if_pos rfl]; subst_vars; simp [*], rfl⟩

set_option maxHeartbeats 4000000 in
set_option maxRecDepth 100000 in
theorem c_X9_ofDoor_3 {l : Launch} {D : va_G} {cy : Nat → ClassId} {ad : Ads} (hI : IJ ad) (x : Mem) {d : Nat} (hd3 : d < 3) : Cti l yX9_ofDoor cX9_ofDoor 3 (some .int) rm_X9_ofDoor D cy ad [.ref (ad 15 14 0), .int (nI (d)), .int 3] x (fun r y => r = ofD x d 3 ∧ y = x) := by
  refine rm_entry (Qc := Qi D cy ad (fun r y => r = ofD x d 3 ∧ y = x)) hI (by decide) (Nat.le_of_ble_eq_true rfl) ?_
  intro p e s m args below meth c hc
  show RM _ _ _ _ _ _ _ _ _ _ _ _ _ _ _ _ _ [(0, .ref (ad 15 14 0)), (1, .int (nI (d))), (2, .int 3)] []
  refine rm_iload_n hc dX9_ofDoor_0 rfl rfl ?_
  refine rm_tin (off := 63) (tgt := 64) hc dX9_ofDoor_1 (by decide) (by decide) (by decide) (by decide) ?_
  refine rm_aload_n hc dX9_ofDoor_64 rfl rfl ?_
  refine rm_iload_n hc dX9_ofDoor_65 rfl rfl ?_
  refine rm_calliV (As := [.int (nI (d))]) (rest := []) hc dX9_ofDoor_66 (c_X9_learnt hI x (d := d) (by omega)) mv_X9_111 dm_14 rfl rfl (hn := rfl) (hst := rfl) (hw := Nat.le_of_ble_eq_true rfl) (hR := ⟨⟨rfl, rfl⟩, Nat.le_of_ble_eq_true rfl, Nat.le_of_ble_eq_true rfl⟩) (hnc := ⟨Nat.zero_le _, Nat.zero_le _⟩) (fun r_1 y_1 h_1 => ?_)
  obtain ⟨e_1, ey_1⟩ := h_1
  obtain rfl := ey_1.symm
  exact rm_iret hc dX9_ofDoor_69 ⟨e_1, rfl⟩

set_option maxHeartbeats 4000000 in
set_option maxRecDepth 100000 in
theorem c_X9_ofDoor_4 {l : Launch} {D : va_G} {cy : Nat → ClassId} {ad : Ads} (hI : IJ ad) (x : Mem) {d : Nat} (hd3 : d < 3) : Cti l yX9_ofDoor cX9_ofDoor 3 (some .int) rm_X9_ofDoor D cy ad [.ref (ad 15 14 0), .int (nI (d)), .int 4] x (fun r y => r = ofD x d 4 ∧ y = x) := by
  refine rm_entry (Qc := Qi D cy ad (fun r y => r = ofD x d 4 ∧ y = x)) hI (by decide) (Nat.le_of_ble_eq_true rfl) ?_
  intro p e s m args below meth c hc
  show RM _ _ _ _ _ _ _ _ _ _ _ _ _ _ _ _ _ [(0, .ref (ad 15 14 0)), (1, .int (nI (d))), (2, .int 4)] []
  refine rm_iload_n hc dX9_ofDoor_0 rfl rfl ?_
  refine rm_tout (tgt := 70) hc dX9_ofDoor_1 (by decide) (by decide) ?_
  refine rm_aload_n hc dX9_ofDoor_70 rfl rfl ?_
  refine rm_get hc dX9_ofDoor_71 fl_X9_7 dm_14 rfl rfl ?_
  refine rm_bipush (v := 30) hc dX9_ofDoor_74 (by decide) ?_
  refine rm_bipush (v := 22) hc dX9_ofDoor_76 (by decide) ?_
  refine rm_iload_n hc dX9_ofDoor_78 rfl rfl ?_
  refine rm_imul hc dX9_ofDoor_79 (fun v_1 e_1 => ?_)
  obtain rfl : v_1 = (nI (22 * d)) := e_1.trans (nmul (m := 22) (n := d) (by omega))
  clear e_1
  refine rm_iadd hc dX9_ofDoor_80 (fun v_2 e_2 => ?_)
  obtain rfl : v_2 = (nI (30 + 22 * d)) := e_2.trans (nadd (m := 30) (n := 22 * d) (by omega))
  clear e_2
  refine rm_iload_n hc dX9_ofDoor_81 rfl rfl ?_
  refine rm_iadd hc dX9_ofDoor_82 (fun v_3 e_3 => ?_)
  obtain rfl : v_3 = (nI (34 + 22 * d)) := e_3.trans (nadd (m := 30 + 22 * d) (n := 4) (by omega))
  clear e_3
  refine rm_iconst (v := 2) hc dX9_ofDoor_83 (by decide) ?_
  refine rm_isub hc dX9_ofDoor_84 (fun v_4 e_4 => ?_)
  obtain rfl : v_4 = nI (32 + 22 * d) := (e_4.trans (pk_sub (a := 34 + 22 * d) (b := 2) (by omega))).trans (by congr 1; omega)
  refine rm_iald (i := 32 + 22 * d) hc dX9_ofDoor_85 (dm_15 (by omega)) rfl (by omega) (by decide) rfl (fun v_5 e_5 => ?_)
  exact rm_iret hc dX9_ofDoor_86 ⟨by rw [e_5]; unfold ofD; rw [if_neg (by omega), if_neg (by omega), if_neg (by omega)]; congr 1; omega, rfl⟩

set_option maxHeartbeats 4000000 in
set_option maxRecDepth 100000 in
theorem c_X9_ofDoor_5 {l : Launch} {D : va_G} {cy : Nat → ClassId} {ad : Ads} (hI : IJ ad) (x : Mem) {d : Nat} (hd3 : d < 3) : Cti l yX9_ofDoor cX9_ofDoor 3 (some .int) rm_X9_ofDoor D cy ad [.ref (ad 15 14 0), .int (nI (d)), .int 5] x (fun r y => r = ofD x d 5 ∧ y = x) := by
  refine rm_entry (Qc := Qi D cy ad (fun r y => r = ofD x d 5 ∧ y = x)) hI (by decide) (Nat.le_of_ble_eq_true rfl) ?_
  intro p e s m args below meth c hc
  show RM _ _ _ _ _ _ _ _ _ _ _ _ _ _ _ _ _ [(0, .ref (ad 15 14 0)), (1, .int (nI (d))), (2, .int 5)] []
  refine rm_iload_n hc dX9_ofDoor_0 rfl rfl ?_
  refine rm_tout (tgt := 70) hc dX9_ofDoor_1 (by decide) (by decide) ?_
  refine rm_aload_n hc dX9_ofDoor_70 rfl rfl ?_
  refine rm_get hc dX9_ofDoor_71 fl_X9_7 dm_14 rfl rfl ?_
  refine rm_bipush (v := 30) hc dX9_ofDoor_74 (by decide) ?_
  refine rm_bipush (v := 22) hc dX9_ofDoor_76 (by decide) ?_
  refine rm_iload_n hc dX9_ofDoor_78 rfl rfl ?_
  refine rm_imul hc dX9_ofDoor_79 (fun v_1 e_1 => ?_)
  obtain rfl : v_1 = (nI (22 * d)) := e_1.trans (nmul (m := 22) (n := d) (by omega))
  clear e_1
  refine rm_iadd hc dX9_ofDoor_80 (fun v_2 e_2 => ?_)
  obtain rfl : v_2 = (nI (30 + 22 * d)) := e_2.trans (nadd (m := 30) (n := 22 * d) (by omega))
  clear e_2
  refine rm_iload_n hc dX9_ofDoor_81 rfl rfl ?_
  refine rm_iadd hc dX9_ofDoor_82 (fun v_3 e_3 => ?_)
  obtain rfl : v_3 = (nI (35 + 22 * d)) := e_3.trans (nadd (m := 30 + 22 * d) (n := 5) (by omega))
  clear e_3
  refine rm_iconst (v := 2) hc dX9_ofDoor_83 (by decide) ?_
  refine rm_isub hc dX9_ofDoor_84 (fun v_4 e_4 => ?_)
  obtain rfl : v_4 = nI (33 + 22 * d) := (e_4.trans (pk_sub (a := 35 + 22 * d) (b := 2) (by omega))).trans (by congr 1; omega)
  refine rm_iald (i := 33 + 22 * d) hc dX9_ofDoor_85 (dm_15 (by omega)) rfl (by omega) (by decide) rfl (fun v_5 e_5 => ?_)
  exact rm_iret hc dX9_ofDoor_86 ⟨by rw [e_5]; unfold ofD; rw [if_neg (by omega), if_neg (by omega), if_neg (by omega)]; congr 1; omega, rfl⟩

set_option maxHeartbeats 4000000 in
set_option maxRecDepth 100000 in
theorem c_X9_ofDoor_6 {l : Launch} {D : va_G} {cy : Nat → ClassId} {ad : Ads} (hI : IJ ad) (x : Mem) {d : Nat} (hd3 : d < 3) : Cti l yX9_ofDoor cX9_ofDoor 3 (some .int) rm_X9_ofDoor D cy ad [.ref (ad 15 14 0), .int (nI (d)), .int 6] x (fun r y => r = ofD x d 6 ∧ y = x) := by
  refine rm_entry (Qc := Qi D cy ad (fun r y => r = ofD x d 6 ∧ y = x)) hI (by decide) (Nat.le_of_ble_eq_true rfl) ?_
  intro p e s m args below meth c hc
  show RM _ _ _ _ _ _ _ _ _ _ _ _ _ _ _ _ _ [(0, .ref (ad 15 14 0)), (1, .int (nI (d))), (2, .int 6)] []
  refine rm_iload_n hc dX9_ofDoor_0 rfl rfl ?_
  refine rm_tout (tgt := 70) hc dX9_ofDoor_1 (by decide) (by decide) ?_
  refine rm_aload_n hc dX9_ofDoor_70 rfl rfl ?_
  refine rm_get hc dX9_ofDoor_71 fl_X9_7 dm_14 rfl rfl ?_
  refine rm_bipush (v := 30) hc dX9_ofDoor_74 (by decide) ?_
  refine rm_bipush (v := 22) hc dX9_ofDoor_76 (by decide) ?_
  refine rm_iload_n hc dX9_ofDoor_78 rfl rfl ?_
  refine rm_imul hc dX9_ofDoor_79 (fun v_1 e_1 => ?_)
  obtain rfl : v_1 = (nI (22 * d)) := e_1.trans (nmul (m := 22) (n := d) (by omega))
  clear e_1
  refine rm_iadd hc dX9_ofDoor_80 (fun v_2 e_2 => ?_)
  obtain rfl : v_2 = (nI (30 + 22 * d)) := e_2.trans (nadd (m := 30) (n := 22 * d) (by omega))
  clear e_2
  refine rm_iload_n hc dX9_ofDoor_81 rfl rfl ?_
  refine rm_iadd hc dX9_ofDoor_82 (fun v_3 e_3 => ?_)
  obtain rfl : v_3 = (nI (36 + 22 * d)) := e_3.trans (nadd (m := 30 + 22 * d) (n := 6) (by omega))
  clear e_3
  refine rm_iconst (v := 2) hc dX9_ofDoor_83 (by decide) ?_
  refine rm_isub hc dX9_ofDoor_84 (fun v_4 e_4 => ?_)
  obtain rfl : v_4 = nI (34 + 22 * d) := (e_4.trans (pk_sub (a := 36 + 22 * d) (b := 2) (by omega))).trans (by congr 1; omega)
  refine rm_iald (i := 34 + 22 * d) hc dX9_ofDoor_85 (dm_15 (by omega)) rfl (by omega) (by decide) rfl (fun v_5 e_5 => ?_)
  exact rm_iret hc dX9_ofDoor_86 ⟨by rw [e_5]; unfold ofD; rw [if_neg (by omega), if_neg (by omega), if_neg (by omega)]; congr 1; omega, rfl⟩

set_option maxHeartbeats 4000000 in
set_option maxRecDepth 100000 in
theorem c_X9_ofDoor_7 {l : Launch} {D : va_G} {cy : Nat → ClassId} {ad : Ads} (hI : IJ ad) (x : Mem) {d : Nat} (hd3 : d < 3) : Cti l yX9_ofDoor cX9_ofDoor 3 (some .int) rm_X9_ofDoor D cy ad [.ref (ad 15 14 0), .int (nI (d)), .int 7] x (fun r y => r = ofD x d 7 ∧ y = x) := by
  refine rm_entry (Qc := Qi D cy ad (fun r y => r = ofD x d 7 ∧ y = x)) hI (by decide) (Nat.le_of_ble_eq_true rfl) ?_
  intro p e s m args below meth c hc
  show RM _ _ _ _ _ _ _ _ _ _ _ _ _ _ _ _ _ [(0, .ref (ad 15 14 0)), (1, .int (nI (d))), (2, .int 7)] []
  refine rm_iload_n hc dX9_ofDoor_0 rfl rfl ?_
  refine rm_tout (tgt := 70) hc dX9_ofDoor_1 (by decide) (by decide) ?_
  refine rm_aload_n hc dX9_ofDoor_70 rfl rfl ?_
  refine rm_get hc dX9_ofDoor_71 fl_X9_7 dm_14 rfl rfl ?_
  refine rm_bipush (v := 30) hc dX9_ofDoor_74 (by decide) ?_
  refine rm_bipush (v := 22) hc dX9_ofDoor_76 (by decide) ?_
  refine rm_iload_n hc dX9_ofDoor_78 rfl rfl ?_
  refine rm_imul hc dX9_ofDoor_79 (fun v_1 e_1 => ?_)
  obtain rfl : v_1 = (nI (22 * d)) := e_1.trans (nmul (m := 22) (n := d) (by omega))
  clear e_1
  refine rm_iadd hc dX9_ofDoor_80 (fun v_2 e_2 => ?_)
  obtain rfl : v_2 = (nI (30 + 22 * d)) := e_2.trans (nadd (m := 30) (n := 22 * d) (by omega))
  clear e_2
  refine rm_iload_n hc dX9_ofDoor_81 rfl rfl ?_
  refine rm_iadd hc dX9_ofDoor_82 (fun v_3 e_3 => ?_)
  obtain rfl : v_3 = (nI (37 + 22 * d)) := e_3.trans (nadd (m := 30 + 22 * d) (n := 7) (by omega))
  clear e_3
  refine rm_iconst (v := 2) hc dX9_ofDoor_83 (by decide) ?_
  refine rm_isub hc dX9_ofDoor_84 (fun v_4 e_4 => ?_)
  obtain rfl : v_4 = nI (35 + 22 * d) := (e_4.trans (pk_sub (a := 37 + 22 * d) (b := 2) (by omega))).trans (by congr 1; omega)
  refine rm_iald (i := 35 + 22 * d) hc dX9_ofDoor_85 (dm_15 (by omega)) rfl (by omega) (by decide) rfl (fun v_5 e_5 => ?_)
  exact rm_iret hc dX9_ofDoor_86 ⟨by rw [e_5]; unfold ofD; rw [if_neg (by omega), if_neg (by omega), if_neg (by omega)]; congr 1; omega, rfl⟩

abbrev rm_X9_ofDoors : Room := { frames := 3, cells := 0, slots := 0, locals := 66 }
set_option maxHeartbeats 4000000 in
set_option maxRecDepth 100000 in
theorem c_X9_ofDoors {l : Launch} {D : va_G} {cy : Nat → ClassId} {ad : Ads} (hI : IJ ad) (x : Mem)  : Cti l yX9_ofDoors cX9_ofDoors 4 (some .int) rm_X9_ofDoors D cy ad [.ref (ad 15 14 0), .int 0] x (fun r y => r = ofDs x 0 ∧ y = x) := by
  refine rm_entry (Qc := Qi D cy ad (fun r y => r = ofDs x 0 ∧ y = x)) hI (by decide) (Nat.le_of_ble_eq_true rfl) ?_
  intro p e s m args below meth c hc
  show RM _ _ _ _ _ _ _ _ _ _ _ _ _ _ _ _ _ [(0, .ref (ad 15 14 0)), (1, .int 0)] []
  refine rm_iconst (v := 0) hc dX9_ofDoors_0 (by decide) ?_
  refine rm_istore_n (ls' := [(0, .ref (ad 15 14 0)), (1, .int 0), (2, .int 0)]) hc dX9_ofDoors_1 rfl (by decide) rfl ?_
  refine rm_iconst (v := 0) hc dX9_ofDoors_2 (by decide) ?_
  refine rm_istore_n (ls' := [(0, .ref (ad 15 14 0)), (1, .int 0), (2, .int 0), (3, .int 0)]) hc dX9_ofDoors_3 rfl (by decide) rfl ?_
  refine rm_iload_n hc dX9_ofDoors_4 rfl rfl ?_
  refine rm_iconst (v := 3) hc dX9_ofDoors_5 (by decide) ?_
  refine rm_icmp_ge (tgt := 24) hc dX9_ofDoors_6 (by decide) (fun h => absurd h (by decide)) (fun _ => ?_)
  refine rm_iload_n hc dX9_ofDoors_9 rfl rfl ?_
  refine rm_aload_n hc dX9_ofDoors_10 rfl rfl ?_
  refine rm_iload_n hc dX9_ofDoors_11 rfl rfl ?_
  refine rm_iload_n hc dX9_ofDoors_12 rfl rfl ?_
  refine rm_calliV (As := [.int 0, .int 0]) (rest := [.int 0]) hc dX9_ofDoors_13 (c_X9_ofDoor hI x (d := 0) (by omega)) mv_X9_156 dm_14 rfl rfl (hn := rfl) (hst := rfl) (hw := Nat.le_of_ble_eq_true rfl) (hR := ⟨⟨rfl, rfl⟩, Nat.le_of_ble_eq_true rfl, Nat.le_of_ble_eq_true rfl⟩) (hnc := ⟨Nat.zero_le _, Nat.zero_le _⟩) (fun r_2 y_2 h_2 => ?_)
  obtain ⟨e_2, ey_2⟩ := h_2
  obtain rfl := ey_2.symm
  refine rm_iadd hc dX9_ofDoors_16 (fun v_3 e_3 => ?_)
  refine rm_istore_n (ls' := [(0, .ref (ad 15 14 0)), (1, .int 0), (2, .int v_3), (3, .int 0)]) hc dX9_ofDoors_17 rfl (by decide) rfl ?_
  refine rm_iinc (v := 1) (ls' := [(0, .ref (ad 15 14 0)), (1, .int 0), (2, .int v_3), (3, .int 1)]) hc dX9_ofDoors_18 rfl (by decide) (by decide) rfl ?_
  refine rm_goto (tgt := 4) hc dX9_ofDoors_21 (by decide) ?_
  refine rm_iload_n hc dX9_ofDoors_4 rfl rfl ?_
  refine rm_iconst (v := 3) hc dX9_ofDoors_5 (by decide) ?_
  refine rm_icmp_ge (tgt := 24) hc dX9_ofDoors_6 (by decide) (fun h => absurd h (by decide)) (fun _ => ?_)
  refine rm_iload_n hc dX9_ofDoors_9 rfl rfl ?_
  refine rm_aload_n hc dX9_ofDoors_10 rfl rfl ?_
  refine rm_iload_n hc dX9_ofDoors_11 rfl rfl ?_
  refine rm_iload_n hc dX9_ofDoors_12 rfl rfl ?_
  refine rm_calliV (As := [.int 1, .int 0]) (rest := [.int v_3]) hc dX9_ofDoors_13 (c_X9_ofDoor hI x (d := 1) (by omega)) mv_X9_156 dm_14 rfl rfl (hn := rfl) (hst := rfl) (hw := Nat.le_of_ble_eq_true rfl) (hR := ⟨⟨rfl, rfl⟩, Nat.le_of_ble_eq_true rfl, Nat.le_of_ble_eq_true rfl⟩) (hnc := ⟨Nat.zero_le _, Nat.zero_le _⟩) (fun r_5 y_5 h_5 => ?_)
  obtain ⟨e_5, ey_5⟩ := h_5
  obtain rfl := ey_5.symm
  refine rm_iadd hc dX9_ofDoors_16 (fun v_6 e_6 => ?_)
  refine rm_istore_n (ls' := [(0, .ref (ad 15 14 0)), (1, .int 0), (2, .int v_6), (3, .int 1)]) hc dX9_ofDoors_17 rfl (by decide) rfl ?_
  refine rm_iinc (v := 2) (ls' := [(0, .ref (ad 15 14 0)), (1, .int 0), (2, .int v_6), (3, .int 2)]) hc dX9_ofDoors_18 rfl (by decide) (by decide) rfl ?_
  refine rm_goto (tgt := 4) hc dX9_ofDoors_21 (by decide) ?_
  refine rm_iload_n hc dX9_ofDoors_4 rfl rfl ?_
  refine rm_iconst (v := 3) hc dX9_ofDoors_5 (by decide) ?_
  refine rm_icmp_ge (tgt := 24) hc dX9_ofDoors_6 (by decide) (fun h => absurd h (by decide)) (fun _ => ?_)
  refine rm_iload_n hc dX9_ofDoors_9 rfl rfl ?_
  refine rm_aload_n hc dX9_ofDoors_10 rfl rfl ?_
  refine rm_iload_n hc dX9_ofDoors_11 rfl rfl ?_
  refine rm_iload_n hc dX9_ofDoors_12 rfl rfl ?_
  refine rm_calliV (As := [.int 2, .int 0]) (rest := [.int v_6]) hc dX9_ofDoors_13 (c_X9_ofDoor hI x (d := 2) (by omega)) mv_X9_156 dm_14 rfl rfl (hn := rfl) (hst := rfl) (hw := Nat.le_of_ble_eq_true rfl) (hR := ⟨⟨rfl, rfl⟩, Nat.le_of_ble_eq_true rfl, Nat.le_of_ble_eq_true rfl⟩) (hnc := ⟨Nat.zero_le _, Nat.zero_le _⟩) (fun r_8 y_8 h_8 => ?_)
  obtain ⟨e_8, ey_8⟩ := h_8
  obtain rfl := ey_8.symm
  refine rm_iadd hc dX9_ofDoors_16 (fun v_9 e_9 => ?_)
  refine rm_istore_n (ls' := [(0, .ref (ad 15 14 0)), (1, .int 0), (2, .int v_9), (3, .int 2)]) hc dX9_ofDoors_17 rfl (by decide) rfl ?_
  refine rm_iinc (v := 3) (ls' := [(0, .ref (ad 15 14 0)), (1, .int 0), (2, .int v_9), (3, .int 3)]) hc dX9_ofDoors_18 rfl (by decide) (by decide) rfl ?_
  refine rm_goto (tgt := 4) hc dX9_ofDoors_21 (by decide) ?_
  refine rm_iload_n hc dX9_ofDoors_4 rfl rfl ?_
  refine rm_iconst (v := 3) hc dX9_ofDoors_5 (by decide) ?_
  refine rm_icmp_ge (tgt := 24) hc dX9_ofDoors_6 (by decide) (fun _ => ?_) (fun h => absurd (by decide) h)
  refine rm_iload_n hc dX9_ofDoors_24 rfl rfl ?_
  exact rm_iret hc dX9_ofDoors_25 ⟨by subst_vars; rfl, rfl⟩

set_option maxHeartbeats 4000000 in
set_option maxRecDepth 100000 in
theorem c_X9_ofDoors_2 {l : Launch} {D : va_G} {cy : Nat → ClassId} {ad : Ads} (hI : IJ ad) (x : Mem)  : Cti l yX9_ofDoors cX9_ofDoors 4 (some .int) rm_X9_ofDoors D cy ad [.ref (ad 15 14 0), .int 2] x (fun r y => r = ofDs x 2 ∧ y = x) := by
  refine rm_entry (Qc := Qi D cy ad (fun r y => r = ofDs x 2 ∧ y = x)) hI (by decide) (Nat.le_of_ble_eq_true rfl) ?_
  intro p e s m args below meth c hc
  show RM _ _ _ _ _ _ _ _ _ _ _ _ _ _ _ _ _ [(0, .ref (ad 15 14 0)), (1, .int 2)] []
  refine rm_iconst (v := 0) hc dX9_ofDoors_0 (by decide) ?_
  refine rm_istore_n (ls' := [(0, .ref (ad 15 14 0)), (1, .int 2), (2, .int 0)]) hc dX9_ofDoors_1 rfl (by decide) rfl ?_
  refine rm_iconst (v := 0) hc dX9_ofDoors_2 (by decide) ?_
  refine rm_istore_n (ls' := [(0, .ref (ad 15 14 0)), (1, .int 2), (2, .int 0), (3, .int 0)]) hc dX9_ofDoors_3 rfl (by decide) rfl ?_
  refine rm_iload_n hc dX9_ofDoors_4 rfl rfl ?_
  refine rm_iconst (v := 3) hc dX9_ofDoors_5 (by decide) ?_
  refine rm_icmp_ge (tgt := 24) hc dX9_ofDoors_6 (by decide) (fun h => absurd h (by decide)) (fun _ => ?_)
  refine rm_iload_n hc dX9_ofDoors_9 rfl rfl ?_
  refine rm_aload_n hc dX9_ofDoors_10 rfl rfl ?_
  refine rm_iload_n hc dX9_ofDoors_11 rfl rfl ?_
  refine rm_iload_n hc dX9_ofDoors_12 rfl rfl ?_
  refine rm_calliV (As := [.int 0, .int 2]) (rest := [.int 0]) hc dX9_ofDoors_13 (c_X9_ofDoor_2 hI x (d := 0) (by omega)) mv_X9_156 dm_14 rfl rfl (hn := rfl) (hst := rfl) (hw := Nat.le_of_ble_eq_true rfl) (hR := ⟨⟨rfl, rfl⟩, Nat.le_of_ble_eq_true rfl, Nat.le_of_ble_eq_true rfl⟩) (hnc := ⟨Nat.zero_le _, Nat.zero_le _⟩) (fun r_2 y_2 h_2 => ?_)
  obtain ⟨e_2, ey_2⟩ := h_2
  obtain rfl := ey_2.symm
  refine rm_iadd hc dX9_ofDoors_16 (fun v_3 e_3 => ?_)
  refine rm_istore_n (ls' := [(0, .ref (ad 15 14 0)), (1, .int 2), (2, .int v_3), (3, .int 0)]) hc dX9_ofDoors_17 rfl (by decide) rfl ?_
  refine rm_iinc (v := 1) (ls' := [(0, .ref (ad 15 14 0)), (1, .int 2), (2, .int v_3), (3, .int 1)]) hc dX9_ofDoors_18 rfl (by decide) (by decide) rfl ?_
  refine rm_goto (tgt := 4) hc dX9_ofDoors_21 (by decide) ?_
  refine rm_iload_n hc dX9_ofDoors_4 rfl rfl ?_
  refine rm_iconst (v := 3) hc dX9_ofDoors_5 (by decide) ?_
  refine rm_icmp_ge (tgt := 24) hc dX9_ofDoors_6 (by decide) (fun h => absurd h (by decide)) (fun _ => ?_)
  refine rm_iload_n hc dX9_ofDoors_9 rfl rfl ?_
  refine rm_aload_n hc dX9_ofDoors_10 rfl rfl ?_
  refine rm_iload_n hc dX9_ofDoors_11 rfl rfl ?_
  refine rm_iload_n hc dX9_ofDoors_12 rfl rfl ?_
  refine rm_calliV (As := [.int 1, .int 2]) (rest := [.int v_3]) hc dX9_ofDoors_13 (c_X9_ofDoor_2 hI x (d := 1) (by omega)) mv_X9_156 dm_14 rfl rfl (hn := rfl) (hst := rfl) (hw := Nat.le_of_ble_eq_true rfl) (hR := ⟨⟨rfl, rfl⟩, Nat.le_of_ble_eq_true rfl, Nat.le_of_ble_eq_true rfl⟩) (hnc := ⟨Nat.zero_le _, Nat.zero_le _⟩) (fun r_5 y_5 h_5 => ?_)
  obtain ⟨e_5, ey_5⟩ := h_5
  obtain rfl := ey_5.symm
  refine rm_iadd hc dX9_ofDoors_16 (fun v_6 e_6 => ?_)
  refine rm_istore_n (ls' := [(0, .ref (ad 15 14 0)), (1, .int 2), (2, .int v_6), (3, .int 1)]) hc dX9_ofDoors_17 rfl (by decide) rfl ?_
  refine rm_iinc (v := 2) (ls' := [(0, .ref (ad 15 14 0)), (1, .int 2), (2, .int v_6), (3, .int 2)]) hc dX9_ofDoors_18 rfl (by decide) (by decide) rfl ?_
  refine rm_goto (tgt := 4) hc dX9_ofDoors_21 (by decide) ?_
  refine rm_iload_n hc dX9_ofDoors_4 rfl rfl ?_
  refine rm_iconst (v := 3) hc dX9_ofDoors_5 (by decide) ?_
  refine rm_icmp_ge (tgt := 24) hc dX9_ofDoors_6 (by decide) (fun h => absurd h (by decide)) (fun _ => ?_)
  refine rm_iload_n hc dX9_ofDoors_9 rfl rfl ?_
  refine rm_aload_n hc dX9_ofDoors_10 rfl rfl ?_
  refine rm_iload_n hc dX9_ofDoors_11 rfl rfl ?_
  refine rm_iload_n hc dX9_ofDoors_12 rfl rfl ?_
  refine rm_calliV (As := [.int 2, .int 2]) (rest := [.int v_6]) hc dX9_ofDoors_13 (c_X9_ofDoor_2 hI x (d := 2) (by omega)) mv_X9_156 dm_14 rfl rfl (hn := rfl) (hst := rfl) (hw := Nat.le_of_ble_eq_true rfl) (hR := ⟨⟨rfl, rfl⟩, Nat.le_of_ble_eq_true rfl, Nat.le_of_ble_eq_true rfl⟩) (hnc := ⟨Nat.zero_le _, Nat.zero_le _⟩) (fun r_8 y_8 h_8 => ?_)
  obtain ⟨e_8, ey_8⟩ := h_8
  obtain rfl := ey_8.symm
  refine rm_iadd hc dX9_ofDoors_16 (fun v_9 e_9 => ?_)
  refine rm_istore_n (ls' := [(0, .ref (ad 15 14 0)), (1, .int 2), (2, .int v_9), (3, .int 2)]) hc dX9_ofDoors_17 rfl (by decide) rfl ?_
  refine rm_iinc (v := 3) (ls' := [(0, .ref (ad 15 14 0)), (1, .int 2), (2, .int v_9), (3, .int 3)]) hc dX9_ofDoors_18 rfl (by decide) (by decide) rfl ?_
  refine rm_goto (tgt := 4) hc dX9_ofDoors_21 (by decide) ?_
  refine rm_iload_n hc dX9_ofDoors_4 rfl rfl ?_
  refine rm_iconst (v := 3) hc dX9_ofDoors_5 (by decide) ?_
  refine rm_icmp_ge (tgt := 24) hc dX9_ofDoors_6 (by decide) (fun _ => ?_) (fun h => absurd (by decide) h)
  refine rm_iload_n hc dX9_ofDoors_24 rfl rfl ?_
  exact rm_iret hc dX9_ofDoors_25 ⟨by subst_vars; rfl, rfl⟩

set_option maxHeartbeats 4000000 in
set_option maxRecDepth 100000 in
theorem c_X9_ofDoors_4 {l : Launch} {D : va_G} {cy : Nat → ClassId} {ad : Ads} (hI : IJ ad) (x : Mem)  : Cti l yX9_ofDoors cX9_ofDoors 4 (some .int) rm_X9_ofDoors D cy ad [.ref (ad 15 14 0), .int 4] x (fun r y => r = ofDs x 4 ∧ y = x) := by
  refine rm_entry (Qc := Qi D cy ad (fun r y => r = ofDs x 4 ∧ y = x)) hI (by decide) (Nat.le_of_ble_eq_true rfl) ?_
  intro p e s m args below meth c hc
  show RM _ _ _ _ _ _ _ _ _ _ _ _ _ _ _ _ _ [(0, .ref (ad 15 14 0)), (1, .int 4)] []
  refine rm_iconst (v := 0) hc dX9_ofDoors_0 (by decide) ?_
  refine rm_istore_n (ls' := [(0, .ref (ad 15 14 0)), (1, .int 4), (2, .int 0)]) hc dX9_ofDoors_1 rfl (by decide) rfl ?_
  refine rm_iconst (v := 0) hc dX9_ofDoors_2 (by decide) ?_
  refine rm_istore_n (ls' := [(0, .ref (ad 15 14 0)), (1, .int 4), (2, .int 0), (3, .int 0)]) hc dX9_ofDoors_3 rfl (by decide) rfl ?_
  refine rm_iload_n hc dX9_ofDoors_4 rfl rfl ?_
  refine rm_iconst (v := 3) hc dX9_ofDoors_5 (by decide) ?_
  refine rm_icmp_ge (tgt := 24) hc dX9_ofDoors_6 (by decide) (fun h => absurd h (by decide)) (fun _ => ?_)
  refine rm_iload_n hc dX9_ofDoors_9 rfl rfl ?_
  refine rm_aload_n hc dX9_ofDoors_10 rfl rfl ?_
  refine rm_iload_n hc dX9_ofDoors_11 rfl rfl ?_
  refine rm_iload_n hc dX9_ofDoors_12 rfl rfl ?_
  refine rm_calliV (As := [.int 0, .int 4]) (rest := [.int 0]) hc dX9_ofDoors_13 (c_X9_ofDoor_4 hI x (d := 0) (by omega)) mv_X9_156 dm_14 rfl rfl (hn := rfl) (hst := rfl) (hw := Nat.le_of_ble_eq_true rfl) (hR := ⟨⟨rfl, rfl⟩, Nat.le_of_ble_eq_true rfl, Nat.le_of_ble_eq_true rfl⟩) (hnc := ⟨Nat.zero_le _, Nat.zero_le _⟩) (fun r_2 y_2 h_2 => ?_)
  obtain ⟨e_2, ey_2⟩ := h_2
  obtain rfl := ey_2.symm
  refine rm_iadd hc dX9_ofDoors_16 (fun v_3 e_3 => ?_)
  refine rm_istore_n (ls' := [(0, .ref (ad 15 14 0)), (1, .int 4), (2, .int v_3), (3, .int 0)]) hc dX9_ofDoors_17 rfl (by decide) rfl ?_
  refine rm_iinc (v := 1) (ls' := [(0, .ref (ad 15 14 0)), (1, .int 4), (2, .int v_3), (3, .int 1)]) hc dX9_ofDoors_18 rfl (by decide) (by decide) rfl ?_
  refine rm_goto (tgt := 4) hc dX9_ofDoors_21 (by decide) ?_
  refine rm_iload_n hc dX9_ofDoors_4 rfl rfl ?_
  refine rm_iconst (v := 3) hc dX9_ofDoors_5 (by decide) ?_
  refine rm_icmp_ge (tgt := 24) hc dX9_ofDoors_6 (by decide) (fun h => absurd h (by decide)) (fun _ => ?_)
  refine rm_iload_n hc dX9_ofDoors_9 rfl rfl ?_
  refine rm_aload_n hc dX9_ofDoors_10 rfl rfl ?_
  refine rm_iload_n hc dX9_ofDoors_11 rfl rfl ?_
  refine rm_iload_n hc dX9_ofDoors_12 rfl rfl ?_
  refine rm_calliV (As := [.int 1, .int 4]) (rest := [.int v_3]) hc dX9_ofDoors_13 (c_X9_ofDoor_4 hI x (d := 1) (by omega)) mv_X9_156 dm_14 rfl rfl (hn := rfl) (hst := rfl) (hw := Nat.le_of_ble_eq_true rfl) (hR := ⟨⟨rfl, rfl⟩, Nat.le_of_ble_eq_true rfl, Nat.le_of_ble_eq_true rfl⟩) (hnc := ⟨Nat.zero_le _, Nat.zero_le _⟩) (fun r_5 y_5 h_5 => ?_)
  obtain ⟨e_5, ey_5⟩ := h_5
  obtain rfl := ey_5.symm
  refine rm_iadd hc dX9_ofDoors_16 (fun v_6 e_6 => ?_)
  refine rm_istore_n (ls' := [(0, .ref (ad 15 14 0)), (1, .int 4), (2, .int v_6), (3, .int 1)]) hc dX9_ofDoors_17 rfl (by decide) rfl ?_
  refine rm_iinc (v := 2) (ls' := [(0, .ref (ad 15 14 0)), (1, .int 4), (2, .int v_6), (3, .int 2)]) hc dX9_ofDoors_18 rfl (by decide) (by decide) rfl ?_
  refine rm_goto (tgt := 4) hc dX9_ofDoors_21 (by decide) ?_
  refine rm_iload_n hc dX9_ofDoors_4 rfl rfl ?_
  refine rm_iconst (v := 3) hc dX9_ofDoors_5 (by decide) ?_
  refine rm_icmp_ge (tgt := 24) hc dX9_ofDoors_6 (by decide) (fun h => absurd h (by decide)) (fun _ => ?_)
  refine rm_iload_n hc dX9_ofDoors_9 rfl rfl ?_
  refine rm_aload_n hc dX9_ofDoors_10 rfl rfl ?_
  refine rm_iload_n hc dX9_ofDoors_11 rfl rfl ?_
  refine rm_iload_n hc dX9_ofDoors_12 rfl rfl ?_
  refine rm_calliV (As := [.int 2, .int 4]) (rest := [.int v_6]) hc dX9_ofDoors_13 (c_X9_ofDoor_4 hI x (d := 2) (by omega)) mv_X9_156 dm_14 rfl rfl (hn := rfl) (hst := rfl) (hw := Nat.le_of_ble_eq_true rfl) (hR := ⟨⟨rfl, rfl⟩, Nat.le_of_ble_eq_true rfl, Nat.le_of_ble_eq_true rfl⟩) (hnc := ⟨Nat.zero_le _, Nat.zero_le _⟩) (fun r_8 y_8 h_8 => ?_)
  obtain ⟨e_8, ey_8⟩ := h_8
  obtain rfl := ey_8.symm
  refine rm_iadd hc dX9_ofDoors_16 (fun v_9 e_9 => ?_)
  refine rm_istore_n (ls' := [(0, .ref (ad 15 14 0)), (1, .int 4), (2, .int v_9), (3, .int 2)]) hc dX9_ofDoors_17 rfl (by decide) rfl ?_
  refine rm_iinc (v := 3) (ls' := [(0, .ref (ad 15 14 0)), (1, .int 4), (2, .int v_9), (3, .int 3)]) hc dX9_ofDoors_18 rfl (by decide) (by decide) rfl ?_
  refine rm_goto (tgt := 4) hc dX9_ofDoors_21 (by decide) ?_
  refine rm_iload_n hc dX9_ofDoors_4 rfl rfl ?_
  refine rm_iconst (v := 3) hc dX9_ofDoors_5 (by decide) ?_
  refine rm_icmp_ge (tgt := 24) hc dX9_ofDoors_6 (by decide) (fun _ => ?_) (fun h => absurd (by decide) h)
  refine rm_iload_n hc dX9_ofDoors_24 rfl rfl ?_
  exact rm_iret hc dX9_ofDoors_25 ⟨by subst_vars; rfl, rfl⟩

set_option maxHeartbeats 4000000 in
set_option maxRecDepth 100000 in
theorem c_X9_ofDoors_6 {l : Launch} {D : va_G} {cy : Nat → ClassId} {ad : Ads} (hI : IJ ad) (x : Mem)  : Cti l yX9_ofDoors cX9_ofDoors 4 (some .int) rm_X9_ofDoors D cy ad [.ref (ad 15 14 0), .int 6] x (fun r y => r = ofDs x 6 ∧ y = x) := by
  refine rm_entry (Qc := Qi D cy ad (fun r y => r = ofDs x 6 ∧ y = x)) hI (by decide) (Nat.le_of_ble_eq_true rfl) ?_
  intro p e s m args below meth c hc
  show RM _ _ _ _ _ _ _ _ _ _ _ _ _ _ _ _ _ [(0, .ref (ad 15 14 0)), (1, .int 6)] []
  refine rm_iconst (v := 0) hc dX9_ofDoors_0 (by decide) ?_
  refine rm_istore_n (ls' := [(0, .ref (ad 15 14 0)), (1, .int 6), (2, .int 0)]) hc dX9_ofDoors_1 rfl (by decide) rfl ?_
  refine rm_iconst (v := 0) hc dX9_ofDoors_2 (by decide) ?_
  refine rm_istore_n (ls' := [(0, .ref (ad 15 14 0)), (1, .int 6), (2, .int 0), (3, .int 0)]) hc dX9_ofDoors_3 rfl (by decide) rfl ?_
  refine rm_iload_n hc dX9_ofDoors_4 rfl rfl ?_
  refine rm_iconst (v := 3) hc dX9_ofDoors_5 (by decide) ?_
  refine rm_icmp_ge (tgt := 24) hc dX9_ofDoors_6 (by decide) (fun h => absurd h (by decide)) (fun _ => ?_)
  refine rm_iload_n hc dX9_ofDoors_9 rfl rfl ?_
  refine rm_aload_n hc dX9_ofDoors_10 rfl rfl ?_
  refine rm_iload_n hc dX9_ofDoors_11 rfl rfl ?_
  refine rm_iload_n hc dX9_ofDoors_12 rfl rfl ?_
  refine rm_calliV (As := [.int 0, .int 6]) (rest := [.int 0]) hc dX9_ofDoors_13 (c_X9_ofDoor_6 hI x (d := 0) (by omega)) mv_X9_156 dm_14 rfl rfl (hn := rfl) (hst := rfl) (hw := Nat.le_of_ble_eq_true rfl) (hR := ⟨⟨rfl, rfl⟩, Nat.le_of_ble_eq_true rfl, Nat.le_of_ble_eq_true rfl⟩) (hnc := ⟨Nat.zero_le _, Nat.zero_le _⟩) (fun r_2 y_2 h_2 => ?_)
  obtain ⟨e_2, ey_2⟩ := h_2
  obtain rfl := ey_2.symm
  refine rm_iadd hc dX9_ofDoors_16 (fun v_3 e_3 => ?_)
  refine rm_istore_n (ls' := [(0, .ref (ad 15 14 0)), (1, .int 6), (2, .int v_3), (3, .int 0)]) hc dX9_ofDoors_17 rfl (by decide) rfl ?_
  refine rm_iinc (v := 1) (ls' := [(0, .ref (ad 15 14 0)), (1, .int 6), (2, .int v_3), (3, .int 1)]) hc dX9_ofDoors_18 rfl (by decide) (by decide) rfl ?_
  refine rm_goto (tgt := 4) hc dX9_ofDoors_21 (by decide) ?_
  refine rm_iload_n hc dX9_ofDoors_4 rfl rfl ?_
  refine rm_iconst (v := 3) hc dX9_ofDoors_5 (by decide) ?_
  refine rm_icmp_ge (tgt := 24) hc dX9_ofDoors_6 (by decide) (fun h => absurd h (by decide)) (fun _ => ?_)
  refine rm_iload_n hc dX9_ofDoors_9 rfl rfl ?_
  refine rm_aload_n hc dX9_ofDoors_10 rfl rfl ?_
  refine rm_iload_n hc dX9_ofDoors_11 rfl rfl ?_
  refine rm_iload_n hc dX9_ofDoors_12 rfl rfl ?_
  refine rm_calliV (As := [.int 1, .int 6]) (rest := [.int v_3]) hc dX9_ofDoors_13 (c_X9_ofDoor_6 hI x (d := 1) (by omega)) mv_X9_156 dm_14 rfl rfl (hn := rfl) (hst := rfl) (hw := Nat.le_of_ble_eq_true rfl) (hR := ⟨⟨rfl, rfl⟩, Nat.le_of_ble_eq_true rfl, Nat.le_of_ble_eq_true rfl⟩) (hnc := ⟨Nat.zero_le _, Nat.zero_le _⟩) (fun r_5 y_5 h_5 => ?_)
  obtain ⟨e_5, ey_5⟩ := h_5
  obtain rfl := ey_5.symm
  refine rm_iadd hc dX9_ofDoors_16 (fun v_6 e_6 => ?_)
  refine rm_istore_n (ls' := [(0, .ref (ad 15 14 0)), (1, .int 6), (2, .int v_6), (3, .int 1)]) hc dX9_ofDoors_17 rfl (by decide) rfl ?_
  refine rm_iinc (v := 2) (ls' := [(0, .ref (ad 15 14 0)), (1, .int 6), (2, .int v_6), (3, .int 2)]) hc dX9_ofDoors_18 rfl (by decide) (by decide) rfl ?_
  refine rm_goto (tgt := 4) hc dX9_ofDoors_21 (by decide) ?_
  refine rm_iload_n hc dX9_ofDoors_4 rfl rfl ?_
  refine rm_iconst (v := 3) hc dX9_ofDoors_5 (by decide) ?_
  refine rm_icmp_ge (tgt := 24) hc dX9_ofDoors_6 (by decide) (fun h => absurd h (by decide)) (fun _ => ?_)
  refine rm_iload_n hc dX9_ofDoors_9 rfl rfl ?_
  refine rm_aload_n hc dX9_ofDoors_10 rfl rfl ?_
  refine rm_iload_n hc dX9_ofDoors_11 rfl rfl ?_
  refine rm_iload_n hc dX9_ofDoors_12 rfl rfl ?_
  refine rm_calliV (As := [.int 2, .int 6]) (rest := [.int v_6]) hc dX9_ofDoors_13 (c_X9_ofDoor_6 hI x (d := 2) (by omega)) mv_X9_156 dm_14 rfl rfl (hn := rfl) (hst := rfl) (hw := Nat.le_of_ble_eq_true rfl) (hR := ⟨⟨rfl, rfl⟩, Nat.le_of_ble_eq_true rfl, Nat.le_of_ble_eq_true rfl⟩) (hnc := ⟨Nat.zero_le _, Nat.zero_le _⟩) (fun r_8 y_8 h_8 => ?_)
  obtain ⟨e_8, ey_8⟩ := h_8
  obtain rfl := ey_8.symm
  refine rm_iadd hc dX9_ofDoors_16 (fun v_9 e_9 => ?_)
  refine rm_istore_n (ls' := [(0, .ref (ad 15 14 0)), (1, .int 6), (2, .int v_9), (3, .int 2)]) hc dX9_ofDoors_17 rfl (by decide) rfl ?_
  refine rm_iinc (v := 3) (ls' := [(0, .ref (ad 15 14 0)), (1, .int 6), (2, .int v_9), (3, .int 3)]) hc dX9_ofDoors_18 rfl (by decide) (by decide) rfl ?_
  refine rm_goto (tgt := 4) hc dX9_ofDoors_21 (by decide) ?_
  refine rm_iload_n hc dX9_ofDoors_4 rfl rfl ?_
  refine rm_iconst (v := 3) hc dX9_ofDoors_5 (by decide) ?_
  refine rm_icmp_ge (tgt := 24) hc dX9_ofDoors_6 (by decide) (fun _ => ?_) (fun h => absurd (by decide) h)
  refine rm_iload_n hc dX9_ofDoors_24 rfl rfl ?_
  exact rm_iret hc dX9_ofDoors_25 ⟨by subst_vars; rfl, rfl⟩

abbrev rm_X9_counted : Room := { frames := 4, cells := 0, slots := 0, locals := 89 }
set_option maxHeartbeats 4000000 in
set_option maxRecDepth 100000 in
theorem c_X9_counted {l : Launch} {D : va_G} {cy : Nat → ClassId} {ad : Ads} (hI : IJ ad) (x : Mem)  : Cti l yX9_counted cX9_counted 2 (some .int) rm_X9_counted D cy ad [.ref (ad 15 14 0), .int 0] x (fun r y => r = cntM x 0 ∧ y = x) := by
  refine rm_entry (Qc := Qi D cy ad (fun r y => r = cntM x 0 ∧ y = x)) hI (by decide) (Nat.le_of_ble_eq_true rfl) ?_
  intro p e s m args below meth c hc
  show RM _ _ _ _ _ _ _ _ _ _ _ _ _ _ _ _ _ [(0, .ref (ad 15 14 0)), (1, .int 0)] []
  refine rm_iload_n hc dX9_counted_0 rfl rfl ?_
  refine rm_tin (off := 43) (tgt := 44) hc dX9_counted_1 (by decide) (by decide) (by decide) (by decide) ?_
  refine rm_aload_n hc dX9_counted_44 rfl rfl ?_
  refine rm_iconst (v := 0) hc dX9_counted_45 (by decide) ?_
  refine rm_iconst (v := 4) hc dX9_counted_46 (by decide) ?_
  refine rm_calliV (As := [.int 0, .int 4]) (rest := []) hc dX9_counted_47 (c_X9_ofFob_4 hI x (j := 0) (by omega)) mv_X9_149 dm_14 rfl rfl (hn := rfl) (hst := rfl) (hw := Nat.le_of_ble_eq_true rfl) (hR := ⟨⟨rfl, rfl⟩, Nat.le_of_ble_eq_true rfl, Nat.le_of_ble_eq_true rfl⟩) (hnc := ⟨Nat.zero_le _, Nat.zero_le _⟩) (fun r_1 y_1 h_1 => ?_)
  obtain ⟨e_1, ey_1⟩ := h_1
  obtain rfl := ey_1.symm
  refine rm_aload_n hc dX9_counted_50 rfl rfl ?_
  refine rm_iconst (v := 1) hc dX9_counted_51 (by decide) ?_
  refine rm_iconst (v := 4) hc dX9_counted_52 (by decide) ?_
  refine rm_calliV (As := [.int 1, .int 4]) (rest := [.int r_1]) hc dX9_counted_53 (c_X9_ofFob_4 hI x (j := 1) (by omega)) mv_X9_149 dm_14 rfl rfl (hn := rfl) (hst := rfl) (hw := Nat.le_of_ble_eq_true rfl) (hR := ⟨⟨rfl, rfl⟩, Nat.le_of_ble_eq_true rfl, Nat.le_of_ble_eq_true rfl⟩) (hnc := ⟨Nat.zero_le _, Nat.zero_le _⟩) (fun r_2 y_2 h_2 => ?_)
  obtain ⟨e_2, ey_2⟩ := h_2
  obtain rfl := ey_2.symm
  refine rm_iadd hc dX9_counted_56 (fun v_3 e_3 => ?_)
  refine rm_aload_n hc dX9_counted_57 rfl rfl ?_
  refine rm_iconst (v := 2) hc dX9_counted_58 (by decide) ?_
  refine rm_iconst (v := 4) hc dX9_counted_59 (by decide) ?_
  refine rm_calliV (As := [.int 2, .int 4]) (rest := [.int v_3]) hc dX9_counted_60 (c_X9_ofFob_4 hI x (j := 2) (by omega)) mv_X9_149 dm_14 rfl rfl (hn := rfl) (hst := rfl) (hw := Nat.le_of_ble_eq_true rfl) (hR := ⟨⟨rfl, rfl⟩, Nat.le_of_ble_eq_true rfl, Nat.le_of_ble_eq_true rfl⟩) (hnc := ⟨Nat.zero_le _, Nat.zero_le _⟩) (fun r_4 y_4 h_4 => ?_)
  obtain ⟨e_4, ey_4⟩ := h_4
  obtain rfl := ey_4.symm
  refine rm_iadd hc dX9_counted_63 (fun v_5 e_5 => ?_)
  refine rm_aload_n hc dX9_counted_64 rfl rfl ?_
  refine rm_iconst (v := 3) hc dX9_counted_65 (by decide) ?_
  refine rm_iconst (v := 4) hc dX9_counted_66 (by decide) ?_
  refine rm_calliV (As := [.int 3, .int 4]) (rest := [.int v_5]) hc dX9_counted_67 (c_X9_ofFob_4 hI x (j := 3) (by omega)) mv_X9_149 dm_14 rfl rfl (hn := rfl) (hst := rfl) (hw := Nat.le_of_ble_eq_true rfl) (hR := ⟨⟨rfl, rfl⟩, Nat.le_of_ble_eq_true rfl, Nat.le_of_ble_eq_true rfl⟩) (hnc := ⟨Nat.zero_le _, Nat.zero_le _⟩) (fun r_6 y_6 h_6 => ?_)
  obtain ⟨e_6, ey_6⟩ := h_6
  obtain rfl := ey_6.symm
  refine rm_iadd hc dX9_counted_70 (fun v_7 e_7 => ?_)
  exact rm_iret hc dX9_counted_71 ⟨by subst_vars; rfl, rfl⟩

set_option maxHeartbeats 4000000 in
set_option maxRecDepth 100000 in
theorem c_X9_counted_1 {l : Launch} {D : va_G} {cy : Nat → ClassId} {ad : Ads} (hI : IJ ad) (x : Mem)  : Cti l yX9_counted cX9_counted 2 (some .int) rm_X9_counted D cy ad [.ref (ad 15 14 0), .int 1] x (fun r y => r = cntM x 1 ∧ y = x) := by
  refine rm_entry (Qc := Qi D cy ad (fun r y => r = cntM x 1 ∧ y = x)) hI (by decide) (Nat.le_of_ble_eq_true rfl) ?_
  intro p e s m args below meth c hc
  show RM _ _ _ _ _ _ _ _ _ _ _ _ _ _ _ _ _ [(0, .ref (ad 15 14 0)), (1, .int 1)] []
  refine rm_iload_n hc dX9_counted_0 rfl rfl ?_
  refine rm_tin (off := 71) (tgt := 72) hc dX9_counted_1 (by decide) (by decide) (by decide) (by decide) ?_
  refine rm_aload_n hc dX9_counted_72 rfl rfl ?_
  refine rm_get hc dX9_counted_73 fl_X9_7 dm_14 rfl rfl ?_
  refine rm_iconst (v := 3) hc dX9_counted_76 (by decide) ?_
  refine rm_iald (i := 3) hc dX9_counted_77 (dm_15 (by omega)) rfl (by omega) (by decide) rfl (fun v_1 e_1 => ?_)
  exact rm_iret hc dX9_counted_78 ⟨by subst_vars; rfl, rfl⟩

set_option maxHeartbeats 4000000 in
set_option maxRecDepth 100000 in
theorem c_X9_counted_2 {l : Launch} {D : va_G} {cy : Nat → ClassId} {ad : Ads} (hI : IJ ad) (x : Mem)  : Cti l yX9_counted cX9_counted 2 (some .int) rm_X9_counted D cy ad [.ref (ad 15 14 0), .int 2] x (fun r y => r = cntM x 2 ∧ y = x) := by
  refine rm_entry (Qc := Qi D cy ad (fun r y => r = cntM x 2 ∧ y = x)) hI (by decide) (Nat.le_of_ble_eq_true rfl) ?_
  intro p e s m args below meth c hc
  show RM _ _ _ _ _ _ _ _ _ _ _ _ _ _ _ _ _ [(0, .ref (ad 15 14 0)), (1, .int 2)] []
  refine rm_iload_n hc dX9_counted_0 rfl rfl ?_
  refine rm_tin (off := 78) (tgt := 79) hc dX9_counted_1 (by decide) (by decide) (by decide) (by decide) ?_
  refine rm_aload_n hc dX9_counted_79 rfl rfl ?_
  refine rm_iconst (v := 4) hc dX9_counted_80 (by decide) ?_
  refine rm_calliV (As := [.int 4]) (rest := []) hc dX9_counted_81 (c_X9_ofDoors_4 hI x) mv_X9_159 dm_14 rfl rfl (hn := rfl) (hst := rfl) (hw := Nat.le_of_ble_eq_true rfl) (hR := ⟨⟨rfl, rfl⟩, Nat.le_of_ble_eq_true rfl, Nat.le_of_ble_eq_true rfl⟩) (hnc := ⟨Nat.zero_le _, Nat.zero_le _⟩) (fun r_1 y_1 h_1 => ?_)
  obtain ⟨e_1, ey_1⟩ := h_1
  obtain rfl := ey_1.symm
  exact rm_iret hc dX9_counted_84 ⟨by subst_vars; rfl, rfl⟩

set_option maxHeartbeats 4000000 in
set_option maxRecDepth 100000 in
theorem c_X9_counted_3 {l : Launch} {D : va_G} {cy : Nat → ClassId} {ad : Ads} (hI : IJ ad) (x : Mem)  : Cti l yX9_counted cX9_counted 2 (some .int) rm_X9_counted D cy ad [.ref (ad 15 14 0), .int 3] x (fun r y => r = cntM x 3 ∧ y = x) := by
  refine rm_entry (Qc := Qi D cy ad (fun r y => r = cntM x 3 ∧ y = x)) hI (by decide) (Nat.le_of_ble_eq_true rfl) ?_
  intro p e s m args below meth c hc
  show RM _ _ _ _ _ _ _ _ _ _ _ _ _ _ _ _ _ [(0, .ref (ad 15 14 0)), (1, .int 3)] []
  refine rm_iload_n hc dX9_counted_0 rfl rfl ?_
  refine rm_tin (off := 84) (tgt := 85) hc dX9_counted_1 (by decide) (by decide) (by decide) (by decide) ?_
  refine rm_aload_n hc dX9_counted_85 rfl rfl ?_
  refine rm_get hc dX9_counted_86 fl_X9_7 dm_14 rfl rfl ?_
  refine rm_iconst (v := 4) hc dX9_counted_89 (by decide) ?_
  refine rm_iald (i := 4) hc dX9_counted_90 (dm_15 (by omega)) rfl (by omega) (by decide) rfl (fun v_1 e_1 => ?_)
  exact rm_iret hc dX9_counted_91 ⟨by subst_vars; rfl, rfl⟩

set_option maxHeartbeats 4000000 in
set_option maxRecDepth 100000 in
theorem c_X9_counted_4 {l : Launch} {D : va_G} {cy : Nat → ClassId} {ad : Ads} (hI : IJ ad) (x : Mem)  : Cti l yX9_counted cX9_counted 2 (some .int) rm_X9_counted D cy ad [.ref (ad 15 14 0), .int 4] x (fun r y => r = cntM x 4 ∧ y = x) := by
  refine rm_entry (Qc := Qi D cy ad (fun r y => r = cntM x 4 ∧ y = x)) hI (by decide) (Nat.le_of_ble_eq_true rfl) ?_
  intro p e s m args below meth c hc
  show RM _ _ _ _ _ _ _ _ _ _ _ _ _ _ _ _ _ [(0, .ref (ad 15 14 0)), (1, .int 4)] []
  refine rm_iload_n hc dX9_counted_0 rfl rfl ?_
  refine rm_tin (off := 91) (tgt := 92) hc dX9_counted_1 (by decide) (by decide) (by decide) (by decide) ?_
  refine rm_aload_n hc dX9_counted_92 rfl rfl ?_
  refine rm_iconst (v := 0) hc dX9_counted_93 (by decide) ?_
  refine rm_calliV (As := [.int 0]) (rest := []) hc dX9_counted_94 (c_X9_ofDoors hI x) mv_X9_159 dm_14 rfl rfl (hn := rfl) (hst := rfl) (hw := Nat.le_of_ble_eq_true rfl) (hR := ⟨⟨rfl, rfl⟩, Nat.le_of_ble_eq_true rfl, Nat.le_of_ble_eq_true rfl⟩) (hnc := ⟨Nat.zero_le _, Nat.zero_le _⟩) (fun r_1 y_1 h_1 => ?_)
  obtain ⟨e_1, ey_1⟩ := h_1
  obtain rfl := ey_1.symm
  exact rm_iret hc dX9_counted_97 ⟨by subst_vars; rfl, rfl⟩

set_option maxHeartbeats 4000000 in
set_option maxRecDepth 100000 in
theorem c_X9_counted_5 {l : Launch} {D : va_G} {cy : Nat → ClassId} {ad : Ads} (hI : IJ ad) (x : Mem)  : Cti l yX9_counted cX9_counted 2 (some .int) rm_X9_counted D cy ad [.ref (ad 15 14 0), .int 5] x (fun r y => r = cntM x 5 ∧ y = x) := by
  refine rm_entry (Qc := Qi D cy ad (fun r y => r = cntM x 5 ∧ y = x)) hI (by decide) (Nat.le_of_ble_eq_true rfl) ?_
  intro p e s m args below meth c hc
  show RM _ _ _ _ _ _ _ _ _ _ _ _ _ _ _ _ _ [(0, .ref (ad 15 14 0)), (1, .int 5)] []
  refine rm_iload_n hc dX9_counted_0 rfl rfl ?_
  refine rm_tin (off := 97) (tgt := 98) hc dX9_counted_1 (by decide) (by decide) (by decide) (by decide) ?_
  refine rm_aload_n hc dX9_counted_98 rfl rfl ?_
  refine rm_iconst (v := 2) hc dX9_counted_99 (by decide) ?_
  refine rm_calliV (As := [.int 2]) (rest := []) hc dX9_counted_100 (c_X9_ofDoors_2 hI x) mv_X9_159 dm_14 rfl rfl (hn := rfl) (hst := rfl) (hw := Nat.le_of_ble_eq_true rfl) (hR := ⟨⟨rfl, rfl⟩, Nat.le_of_ble_eq_true rfl, Nat.le_of_ble_eq_true rfl⟩) (hnc := ⟨Nat.zero_le _, Nat.zero_le _⟩) (fun r_1 y_1 h_1 => ?_)
  obtain ⟨e_1, ey_1⟩ := h_1
  obtain rfl := ey_1.symm
  exact rm_iret hc dX9_counted_103 ⟨by subst_vars; rfl, rfl⟩

set_option maxHeartbeats 4000000 in
set_option maxRecDepth 100000 in
theorem c_X9_counted_6 {l : Launch} {D : va_G} {cy : Nat → ClassId} {ad : Ads} (hI : IJ ad) (x : Mem)  : Cti l yX9_counted cX9_counted 2 (some .int) rm_X9_counted D cy ad [.ref (ad 15 14 0), .int 6] x (fun r y => r = cntM x 6 ∧ y = x) := by
  refine rm_entry (Qc := Qi D cy ad (fun r y => r = cntM x 6 ∧ y = x)) hI (by decide) (Nat.le_of_ble_eq_true rfl) ?_
  intro p e s m args below meth c hc
  show RM _ _ _ _ _ _ _ _ _ _ _ _ _ _ _ _ _ [(0, .ref (ad 15 14 0)), (1, .int 6)] []
  refine rm_iload_n hc dX9_counted_0 rfl rfl ?_
  refine rm_tin (off := 103) (tgt := 104) hc dX9_counted_1 (by decide) (by decide) (by decide) (by decide) ?_
  refine rm_aload_n hc dX9_counted_104 rfl rfl ?_
  refine rm_get hc dX9_counted_105 fl_X9_7 dm_14 rfl rfl ?_
  refine rm_iconst (v := 5) hc dX9_counted_108 (by decide) ?_
  refine rm_iald (i := 5) hc dX9_counted_109 (dm_15 (by omega)) rfl (by omega) (by decide) rfl (fun v_1 e_1 => ?_)
  exact rm_iret hc dX9_counted_110 ⟨by subst_vars; rfl, rfl⟩

set_option maxHeartbeats 4000000 in
set_option maxRecDepth 100000 in
theorem c_X9_counted_7 {l : Launch} {D : va_G} {cy : Nat → ClassId} {ad : Ads} (hI : IJ ad) (x : Mem)  : Cti l yX9_counted cX9_counted 2 (some .int) rm_X9_counted D cy ad [.ref (ad 15 14 0), .int 7] x (fun r y => r = cntM x 7 ∧ y = x) := by
  refine rm_entry (Qc := Qi D cy ad (fun r y => r = cntM x 7 ∧ y = x)) hI (by decide) (Nat.le_of_ble_eq_true rfl) ?_
  intro p e s m args below meth c hc
  show RM _ _ _ _ _ _ _ _ _ _ _ _ _ _ _ _ _ [(0, .ref (ad 15 14 0)), (1, .int 7)] []
  refine rm_iload_n hc dX9_counted_0 rfl rfl ?_
  refine rm_tout (tgt := 111) hc dX9_counted_1 (by decide) (by decide) ?_
  refine rm_aload_n hc dX9_counted_111 rfl rfl ?_
  refine rm_geti hc dX9_counted_112 fl_X9_37 dm_14 rfl rfl (fun v_1 e_1 => ?_)
  exact rm_iret hc dX9_counted_115 ⟨by subst_vars; rfl, rfl⟩
