/-! ===== what always holds of the model's state ===== -/
def BT (v : Nat → Int32) : Prop := ∀ j, j < 4 → ∃ nb : Nat, nb ≤ 999 ∧ v (16 + 4 * j) = nI nb
def OWB (v : Nat → Int32) (B : Nat) : Prop := ∀ d, d < 3 → ∃ o w : Nat, v (32 + 22 * d) = nI o ∧ v (34 + 22 * d) = nI w ∧ o + w ≤ B
def GD (v : Nat → Int32) (mm B : Nat) : Prop := IV v mm ∧ DF v ∧ BT v ∧ OWB v B
theorem GD.iv {v : Nat → Int32} {mm B : Nat} (h : GD v mm B) : IV v mm := h.1
theorem GD.df {v : Nat → Int32} {mm B : Nat} (h : GD v mm B) : DF v := h.2.1
theorem GD.bt {v : Nat → Int32} {mm B : Nat} (h : GD v mm B) : BT v := h.2.2.1
theorem GD.owb {v : Nat → Int32} {mm B : Nat} (h : GD v mm B) : OWB v B := h.2.2.2
theorem OWB.le {v : Nat → Int32} {B B' : Nat} (h : OWB v B) (hB : B ≤ B') : OWB v B' := fun d hd => by
  obtain ⟨o, w, h1, h2, h3⟩ := h d hd
  exact ⟨o, w, h1, h2, by omega⟩
theorem GD.le {v : Nat → Int32} {mm B B' : Nat} (h : GD v mm B) (hB : B ≤ B') : GD v mm B' := ⟨h.iv, h.df, h.bt, h.owb.le hB⟩
theorem GD.nw {u v : Nat → Int32} {mm mm' B : Nat} (h : GD u mm B) (hI : IV v mm') (e1 : ∀ j, j < 4 → v (16 + 4 * j) = u (16 + 4 * j)) (e2 : ∀ d f, d < 3 → f < 6 → v (30 + f + 22 * d) = u (30 + f + 22 * d)) : GD v mm' B := by
  refine ⟨hI, fun d hd => ?_, fun j hj => ?_, fun d hd => ?_⟩
  · rw [show v (30 + 22 * d) = u (30 + 22 * d) from e2 d 0 hd (by omega)]
    exact h.df d hd
  · rw [e1 j hj]
    exact h.bt j hj
  · rw [show v (32 + 22 * d) = u (32 + 22 * d) from e2 d 2 hd (by omega), show v (34 + 22 * d) = u (34 + 22 * d) from e2 d 4 hd (by omega)]
    exact h.owb d hd
theorem IV.cg {u v : Nat → Int32} {mm : Nat} (h : IV u mm) (e : ∀ n, n < 96 → v n = u n) : IV v mm := by
  obtain ⟨h1, h2, h3, h4, nr, h5, h6⟩ := h
  exact ⟨h1.c96 e, h2.c96 e, (e 1 (by omega)).trans h3, h4, nr, h5, (e 5 (by omega)).trans h6⟩
theorem GD.cg {u v : Nat → Int32} {mm B : Nat} (h : GD u mm B) (e : ∀ n, n < 96 → v n = u n) : GD v mm B :=
  h.nw (h.iv.cg e) (fun j hj => e _ (by omega)) (fun d f hd hf => e _ (by omega))
theorem DF.hr {x : Mem} {k d mm : Nat} {num : Int32} (h : DF (x k)) (hd : d < 3) : DF (hrM x k d k num mm k) := fun d' hd' => by
  have ho : d' < d ∨ d' = d ∨ d < d' := by omega
  rcases hr_or x k d mm num with ⟨-, -, e⟩ | ⟨-, ⟨-, -, e⟩ | ⟨s, t, hs, h1, ht, -, hne, ⟨-, -, e⟩ | ⟨-, -, e⟩⟩⟩ <;> rw [e]
  · rw [up_n _ _ (by omega)]
    exact h d' hd'
  · rw [up_n _ _ (by omega), up_n _ _ (by omega)]
    exact h d' hd'
  · unfold opnM tak1
    rw [up_n _ _ (by omega), up_n _ _ (by omega)]
    rcases ho with q | q | q
    · rw [up_n _ _ (by omega), up_n _ _ (by omega), up_n _ _ (by omega)]
      exact h d' hd'
    · rw [q, up_s]
      exact Or.inr rfl
    · rw [up_n _ _ (by omega), up_n _ _ (by omega), up_n _ _ (by omega)]
      exact h d' hd'
  · unfold tak0
    rw [up_n _ _ (by omega), up_n _ _ (by omega)]
    exact h d' hd'
theorem OWB.hr {x : Mem} {k d mm B : Nat} {num : Int32} (h : OWB (x k) B) (hd : d < 3) : OWB (hrM x k d k num mm k) (B + 1) := fun d' hd' => by
  have ho : d' < d ∨ d' = d ∨ d < d' := by omega
  obtain ⟨o, w, h1, h2, h3⟩ := h d' hd'
  rcases hr_or x k d mm num with ⟨-, -, e⟩ | ⟨-, ⟨-, -, e⟩ | ⟨s, t, hs, h1', ht, -, hne, ⟨-, -, e⟩ | ⟨-, -, e⟩⟩⟩ <;> rw [e]
  · rw [up_n _ _ (by omega), up_n _ _ (by omega)]
    exact ⟨o, w, h1, h2, by omega⟩
  · rw [up_n (n' := 32 + 22 * d') _ _ (by omega), up_n (n' := 32 + 22 * d') _ _ (by omega)]
    by_cases q : d' = d
    · refine ⟨o, w + 1, h1, ?_, by omega⟩
      rw [q, up_s, ← q, h2]
      exact nI_1 w
    · rw [up_n _ _ (by omega), up_n _ _ (by omega)]
      exact ⟨o, w, h1, h2, by omega⟩
  · unfold opnM tak1
    rw [up_n (n' := 34 + 22 * d') _ _ (by omega), up_n (n' := 34 + 22 * d') _ _ (by omega), up_n (n' := 34 + 22 * d') _ _ (by omega), up_n (n' := 34 + 22 * d') _ _ (by omega), up_n (n' := 34 + 22 * d') _ _ (by omega), up_n (n' := 32 + 22 * d') _ _ (by omega)]
    by_cases q : d' = d
    · refine ⟨o + 1, w, ?_, h2, by omega⟩
      rw [q, up_s, up_n _ _ (by omega), up_n _ _ (by omega), ← q, h1]
      exact nI_1 o
    · rw [up_n _ _ (by omega), up_n _ _ (by omega), up_n _ _ (by omega), up_n _ _ (by omega)]
      exact ⟨o, w, h1, h2, by omega⟩
  · unfold tak0
    rw [up_n _ _ (by omega), up_n _ _ (by omega), up_n _ _ (by omega), up_n _ _ (by omega)]
    exact ⟨o, w, h1, h2, by omega⟩
theorem snd_gd {x : Mem} {k mm B : Nat} {msk num : Int32} (h : DF (x k)) (hw : OWB (x k) B) : ∀ d, d ≤ 3 → DF ((sendS x k msk num mm d).2 k) ∧ OWB ((sendS x k msk num mm d).2 k) (B + d)
  | 0, _ => ⟨h, hw⟩
  | d + 1, hd => by
    have ih := snd_gd h hw (msk := msk) (num := num) (mm := mm) d (by omega)
    by_cases hm : (msk >>> (nI d &&& 31)) &&& 1 = 1
    · rw [sendS_y hm]
      exact ⟨ih.1.hr (by omega), ih.2.hr (by omega)⟩
    · rw [sendS_n hm]
      exact ⟨ih.1, ih.2.le (by omega)⟩
theorem DF.fr {u v : Nat → Int32} (h : DF u) (e : ∀ n, 30 ≤ n → n < 96 → v n = u n) : DF v := fun d hd => by
  rw [e _ (by omega) (by omega)]
  exact h d hd
theorem OWB.fr {u v : Nat → Int32} {B : Nat} (h : OWB u B) (e : ∀ n, 30 ≤ n → n < 96 → v n = u n) : OWB v B := fun d hd => by
  rw [e _ (by omega) (by omega), e _ (by omega) (by omega)]
  exact h d hd
theorem prs_gd {x : Mem} {k j mm B : Nat} {msk : Int32} (h : GD (x k) mm B) (hj : j < 4) (hb : ¬ x k (16 + 4 * j) = 0) : GD ((prsS x k j msk mm).2 k) mm (B + 3) := by
  have hs := snd_gd (msk := msk) (num := nxtN x k j) (mm := mm) (h.df.fr (v := recF (sndF x k j) k (nxtN x k j) k) fun n h1 _ => rs_hi hj h1) (h.owb.fr fun n h1 _ => rs_hi hj h1) 3 (by omega)
  refine ⟨h.iv.prs hj, hs.1, fun j' hj' => ?_, hs.2⟩
  obtain ⟨nb, h1, h2⟩ := h.bt j' hj'
  show ∃ nb : Nat, nb ≤ 999 ∧ (sendS _ k msk _ mm 3).2 k (16 + 4 * j') = nI nb
  rw [sendS_lo (by omega)]
  by_cases q : j' = j
  · refine ⟨nb - 1, by omega, ?_⟩
    rw [q]
    refine (rs_f (i := 2) hj (by omega)).trans ?_
    show x k (16 + 4 * j) - 1 = _
    rw [← q, h2, ← dec_n (Nat.pos_of_ne_zero fun e => hb (by rw [← q, h2, e]; rfl)), Int32.sub_eq_add_neg]
    rfl
  · refine ⟨nb, h1, ?_⟩
    unfold recF sndF
    rw [up_n _ _ (by omega), up_n _ _ (by omega)]
    unfold shA
    rw [if_neg (by omega), up_n _ _ (by omega), up_n _ _ (by omega), up_n _ _ (by omega)]
    exact h2
theorem ag_gd {x : Mem} {ii mm B : Nat} {msk : Int32} (h : GD (x 10) mm B) : GD ((agM x ii msk mm).2 10) mm (B + 3) := by
  have hs := snd_gd (msk := msk) (num := x 10 (6 + ii)) (mm := mm) h.df h.owb 3 (by omega)
  refine ⟨h.iv.ag, ?_, fun j hj => ?_, ?_⟩
  · exact hs.1.fr fun n h1 _ => by
      unfold agM
      exact (up_n _ _ (by omega)).trans (up_n _ _ (by omega))
  · rw [agM_lo (by omega) (by omega) (by omega)]
    exact h.bt j hj
  · exact hs.2.fr fun n h1 _ => by
      unfold agM
      exact (up_n _ _ (by omega)).trans (up_n _ _ (by omega))
theorem mk_gd {x : Mem} {j a b mm B : Nat} (h : GD (x 10) mm B) (hj : j < 4) (ha : a < 10000) (hb : b < 10000) : GD (up (up x 10 (14 + 4 * j) (nI a)) 10 (15 + 4 * j) (nI b) 10) mm B := by
  obtain ⟨h1, h2, h3, h4, nr, h5, h6⟩ := h.iv
  refine h.nw ⟨RS.up (RS.up h1 (fun d s i _ _ _ => by omega)) (fun d s i _ _ _ => by omega), fun i hi => ?_, ?_, h4, nr, h5, ?_⟩ (fun i hi => ?_) (fun d f hd hf => ?_)
  · by_cases q : i = j
    · refine ⟨a, b, ha, hb, ?_, ?_⟩
      · rw [q, up_n _ _ (by omega), up_s]
      · rw [q, up_s]
    · rw [up_n _ _ (by omega), up_n _ _ (by omega), up_n _ _ (by omega), up_n _ _ (by omega)]
      exact h2 i hi
  · rw [up_n _ _ (by omega), up_n _ _ (by omega)]
    exact h3
  · rw [up_n _ _ (by omega), up_n _ _ (by omega)]
    exact h6
  · rw [up_n _ _ (by omega), up_n _ _ (by omega)]
  · rw [up_n _ _ (by omega), up_n _ _ (by omega)]
theorem bt_gd {x : Mem} {j a mm B : Nat} (h : GD (x 10) mm B) (hj : j < 4) (ha : a ≤ 999) : GD (up x 10 (16 + 4 * j) (nI a) 10) mm B := by
  obtain ⟨h1, h2, h3, h4, nr, h5, h6⟩ := h.iv
  refine ⟨⟨RS.up h1 (fun d s i _ _ _ => by omega), RF.up h2 (fun i hi => by omega), ?_, h4, nr, h5, ?_⟩, ?_, fun i hi => ?_, ?_⟩
  · rw [up_n _ _ (by omega)]
    exact h3
  · rw [up_n _ _ (by omega)]
    exact h6
  · exact h.df.fr fun n h1 _ => up_n _ _ (by omega)
  · by_cases q : i = j
    · exact ⟨a, ha, by rw [q, up_s]⟩
    · rw [up_n _ _ (by omega)]
      exact h.bt i hi
  · exact h.owb.fr fun n h1 _ => up_n _ _ (by omega)
theorem sl_fr {d s d' f : Nat} (i : Nat) (hf : f < 6) (hs : s < 4) (hi : i < 4) : 30 + f + 22 * d' ≠ 36 + i + 22 * d + 4 * s := by
  have ho : d' < d ∨ d' = d ∨ d < d' := by omega
  omega
theorem ln_gd {x : Mem} {d s j mm B : Nat} (h : GD (x 10) mm B) (hd : d < 3) (hs : s < 4) (hj : j < 4) : GD (lnM x d s j 10) mm B := by
  obtain ⟨h1, h2, h3, h4, nr, h5, h6⟩ := h.iv
  obtain ⟨a, b, ha, hb, ea, eb⟩ := h2 j hj
  have hlo : ∀ n, n < 30 → lnM x d s j 10 n = x 10 n := fun n hn => by
    unfold lnM
    rw [up_n _ _ (by omega), up_n _ _ (by omega), up_n _ _ (by omega), up_n _ _ (by omega)]
  refine h.nw ⟨fun d' hd' s' hs' => ?_, fun i hi => ?_, (hlo 1 (by omega)).trans h3, h4, nr, h5, (hlo 5 (by omega)).trans h6⟩ (fun i hi => hlo _ (by omega)) (fun d' f hd' hf => ?_)
  · by_cases q : d' = d ∧ s' = s
    · rw [q.1, q.2]
      refine Or.inr ⟨?_, a, b, ha, hb, ?_, ?_, Or.inl ?_⟩ <;> unfold lnM
      · rw [up_n _ _ (by omega), up_n _ _ (by omega), up_n _ _ (by omega), up_s]
      · rw [up_n _ _ (by omega), up_n _ _ (by omega), up_s]
        exact ea
      · rw [up_n _ _ (by omega), up_s]
        exact eb
      · exact up_s _ _ _ _
    · refine (h1 d' hd' s' hs').cg fun i hi => ?_
      unfold lnM
      have hq : d' < d ∨ d < d' ∨ (d' = d ∧ (s' < s ∨ s < s')) := by omega
      rw [up_n _ _ (by omega), up_n _ _ (by omega), up_n _ _ (by omega), up_n _ _ (by omega)]
  · rw [hlo _ (by omega), hlo _ (by omega)]
    exact h2 i hi
  · unfold lnM
    rw [up_n _ _ (sl_fr 3 hf hs (by omega)), up_n _ _ (sl_fr 2 hf hs (by omega)), up_n _ _ (sl_fr 1 hf hs (by omega)), up_n _ _ (sl_fr 0 hf hs (by omega))]
theorem fg_gd {x : Mem} {d s mm B : Nat} (h : GD (x 10) mm B) (hd : d < 3) (hs : s < 4) : GD (up x 10 (36 + 22 * d + 4 * s) 0 10) mm B := by
  obtain ⟨h1, h2, h3, h4, nr, h5, h6⟩ := h.iv
  refine h.nw ⟨fun d' hd' s' hs' => ?_, RF.up h2 (fun i hi => by omega), ?_, h4, nr, h5, ?_⟩ (fun i hi => up_n _ _ (by omega)) (fun d' f hd' hf => up_n _ _ (sl_fr 0 hf hs (by omega)))
  · by_cases q : d' = d ∧ s' = s
    · rw [q.1, q.2]
      exact Or.inl (up_s _ _ _ _)
    · refine (h1 d' hd' s' hs').cg fun i hi => ?_
      have hq : d' < d ∨ d < d' ∨ (d' = d ∧ (s' < s ∨ s < s')) := by omega
      rw [up_n _ _ (by omega)]
  · rw [up_n _ _ (by omega)]
    exact h3
  · rw [up_n _ _ (by omega)]
    exact h6
theorem sh_gd {x : Mem} {d mm B : Nat} (h : GD (x 10) mm B) (hd : d < 3) : GD (up x 10 (30 + 22 * d) 0 10) mm B := by
  refine ⟨h.iv.up (a := d) (f := 0) hd (by omega), fun d' hd' => ?_, fun j hj => ?_, fun d' hd' => ?_⟩
  · by_cases q : d' = d
    · rw [q, up_s]
      exact Or.inl rfl
    · rw [up_n _ _ (by omega)]
      exact h.df d' hd'
  · rw [up_n _ _ (by omega)]
    exact h.bt j hj
  · rw [up_n _ _ (by omega), up_n _ _ (by omega)]
    exact h.owb d' hd'
theorem ul_gd {x : Mem} {d mm B : Nat} (h : GD (x 10) mm B) (hd : d < 3) : GD (up x 10 (31 + 22 * d) 0 10) mm B := by
  refine ⟨h.iv.up (a := d) (f := 1) hd (by omega), fun d' hd' => ?_, fun j hj => ?_, fun d' hd' => ?_⟩
  · rw [up_n _ _ (by omega)]
    exact h.df d' hd'
  · rw [up_n _ _ (by omega)]
    exact h.bt j hj
  · rw [up_n _ _ (by omega), up_n _ _ (by omega)]
    exact h.owb d' hd'
theorem st_gd {x : Mem} {n mm B : Nat} {a : Int32} (h : GD (x 10) mm B) (hn : n = 0 ∨ n = 2) : GD (up x 10 n a 10) mm B := by
  obtain ⟨h1, h2, h3, h4, nr, h5, h6⟩ := h.iv
  exact h.nw ⟨RS.up h1 (fun d s i _ _ _ => by omega), RF.up h2 (fun i hi => by omega), (up_n _ _ (by omega)).trans h3, h4, nr, h5, (up_n _ _ (by omega)).trans h6⟩ (fun i hi => up_n _ _ (by omega)) (fun d' f hd' hf => up_n _ _ (by omega))
theorem s1_gd {x : Mem} {mm mm' B : Nat} (h : GD (x 10) mm B) (hm : mm' ≤ 500) : GD (up x 10 1 (nI mm') 10) mm' B := by
  obtain ⟨h1, h2, h3, h4, nr, h5, h6⟩ := h.iv
  exact h.nw ⟨RS.up h1 (fun d s i _ _ _ => by omega), RF.up h2 (fun i hi => by omega), up_s _ _ _ _, hm, nr, h5, (up_n _ _ (by omega)).trans h6⟩ (fun i hi => up_n _ _ (by omega)) (fun d' f hd' hf => up_n _ _ (by omega))
theorem Rl.cg {u v u' v' : Nat → Int32} (h : Rl u v) (hu : ∀ n, n < 96 → u' n = u n) (hv : ∀ n, n < 96 → v' n = v n) : Rl u' v' :=
  ⟨fun n hn _ => by rw [hu n (by omega), hv n (by omega)]; exact h.lo hn, fun d hd => (h.2 d hd).fr (fun n _ _ => hu n (by omega)) (fun n _ _ => hv n (by omega))⟩
theorem flg_rl {x y : Mem} {k k' : Nat} (h : Rl (x k) (y k')) (hR : RS (y k')) (hF : DF (y k')) : FLG x k := fun d hd => by
  refine ⟨?_, fun s hs => ?_⟩
  · rw [show x k (30 + 22 * d) = y k' (30 + 22 * d) from (h.2 d hd).1 0 (by omega)]
    exact hF d hd
  · rw [((h.2 d hd).2 s hs).1]
    exact (hR d hd s hs).imp id (fun q => q.1)
