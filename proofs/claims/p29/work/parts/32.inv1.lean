/-! ===== what always holds of a block of the state ===== -/
def UN (v : Nat → Int32) : Prop := ∀ d, d < 3 → ∀ s, s < 4 → v (36 + 22 * d + 4 * s) = 0 → ∀ i, 0 < i → i < 4 → v (36 + 22 * d + 4 * s + i) = -1
def WRB (v : Nat → Int32) (B : Nat) : Prop := ∀ d, d < 3 → ∃ r : Nat, r ≤ B ∧ v (31 + 22 * d) = nI r
def AR (v : Nat → Int32) : Prop := ∃ nr : Nat, nr ≤ 8 ∧ v 5 = nI nr ∧ ∀ i, i < nr → ∃ q : Nat, q < 65536 ∧ v (6 + i) = nI q
def SE (v : Nat → Int32) (mm : Nat) : Prop := v 1 = nI mm ∧ mm ≤ 500 ∧ (∃ a : Nat, a ≤ 64 ∧ v 0 = nI a) ∧ ∃ b : Nat, b ≤ 20 ∧ v 2 = nI b
def OW (v : Nat → Int32) (B : Nat) (o w : Nat → Nat) : Prop := ∀ d, d < 3 → v (32 + 22 * d) = nI (o d) ∧ v (34 + 22 * d) = nI (w d) ∧ o d + w d ≤ B
/-- the block without its openings -/
def CW (v : Nat → Int32) (mm B : Nat) : Prop := RS v ∧ UN v ∧ RF v ∧ DF v ∧ BT v ∧ WRB v B ∧ AR v ∧ SE v mm
def CV (v : Nat → Int32) (mm B : Nat) : Prop := CW v mm B ∧ ∃ (o w : Nat → Nat) (a : Nat), OW v B o w ∧ v 4 = nI a ∧ a ≤ o 0 + o 1 + o 2
theorem CW.mk {v : Nat → Int32} {mm B : Nat} (h1 : RS v) (h2 : UN v) (h3 : RF v) (h4 : DF v) (h5 : BT v) (h6 : WRB v B) (h7 : AR v) (h8 : SE v mm) : CW v mm B := ⟨h1, h2, h3, h4, h5, h6, h7, h8⟩
theorem UN.cg {u v : Nat → Int32} (h : UN u) (e : ∀ d s i, d < 3 → s < 4 → i < 4 → v (36 + 22 * d + 4 * s + i) = u (36 + 22 * d + 4 * s + i)) : UN v := fun d hd s hs h0 i h1 h4 => by
  rw [e d s i hd hs h4]
  exact h d hd s hs (by rw [← h0]; exact (e d s 0 hd hs (by omega)).symm) i h1 h4
theorem WRB.cg {u v : Nat → Int32} {B : Nat} (h : WRB u B) (e : ∀ d, d < 3 → v (31 + 22 * d) = u (31 + 22 * d)) : WRB v B := fun d hd => by
  rw [e d hd]
  exact h d hd
theorem WRB.le {v : Nat → Int32} {B B' : Nat} (h : WRB v B) (hB : B ≤ B') : WRB v B' := fun d hd => by
  obtain ⟨r, h1, h2⟩ := h d hd
  exact ⟨r, by omega, h2⟩
theorem AR.cg {u v : Nat → Int32} (h : AR u) (e : ∀ n, 5 ≤ n → n < 14 → v n = u n) : AR v := by
  obtain ⟨nr, h1, h2, h3⟩ := h
  refine ⟨nr, h1, (e 5 (by omega) (by omega)).trans h2, fun i hi => ?_⟩
  rw [e (6 + i) (by omega) (by omega)]
  exact h3 i hi
theorem SE.cg {u v : Nat → Int32} {mm : Nat} (h : SE u mm) (e : ∀ n, n < 3 → v n = u n) : SE v mm := by
  obtain ⟨h1, h2, ⟨a, h3, h4⟩, b, h5, h6⟩ := h
  exact ⟨(e 1 (by omega)).trans h1, h2, ⟨a, h3, (e 0 (by omega)).trans h4⟩, b, h5, (e 2 (by omega)).trans h6⟩
theorem BT.cg {u v : Nat → Int32} (h : BT u) (e : ∀ j, j < 4 → v (16 + 4 * j) = u (16 + 4 * j)) : BT v := fun j hj => by
  rw [e j hj]
  exact h j hj
theorem OW.cg {u v : Nat → Int32} {B : Nat} {o w : Nat → Nat} (h : OW u B o w) (e : ∀ d, d < 3 → v (32 + 22 * d) = u (32 + 22 * d) ∧ v (34 + 22 * d) = u (34 + 22 * d)) : OW v B o w := fun d hd => by
  rw [(e d hd).1, (e d hd).2]
  exact h d hd
theorem OW.le {v : Nat → Int32} {B B' : Nat} {o w : Nat → Nat} (h : OW v B o w) (hB : B ≤ B') : OW v B' o w := fun d hd => by
  obtain ⟨h1, h2, h3⟩ := h d hd
  exact ⟨h1, h2, by omega⟩
theorem CW.le {v : Nat → Int32} {mm B B' : Nat} (h : CW v mm B) (hB : B ≤ B') : CW v mm B' := by
  obtain ⟨h1, h2, h3, h4, h5, h6, h7, h8⟩ := h
  exact ⟨h1, h2, h3, h4, h5, h6.le hB, h7, h8⟩
theorem CV.le {v : Nat → Int32} {mm B B' : Nat} (h : CV v mm B) (hB : B ≤ B') : CV v mm B' := by
  obtain ⟨h1, o, w, a, h2, h3, h4⟩ := h
  exact ⟨h1.le hB, o, w, a, h2.le hB, h3, h4⟩
theorem DF.cg {u v : Nat → Int32} (h : DF u) (e : ∀ d, d < 3 → v (30 + 22 * d) = u (30 + 22 * d)) : DF v := fun d hd => by
  rw [e d hd]
  exact h d hd
theorem RF.cg {u v : Nat → Int32} (h : RF u) (e : ∀ n, 14 ≤ n → n < 30 → v n = u n) : RF v := fun j hj => by
  rw [e _ (by omega) (by omega), e _ (by omega) (by omega)]
  exact h j hj
theorem RS.cg {u v : Nat → Int32} (h : RS u) (e : ∀ d s i, d < 3 → s < 4 → i < 4 → v (36 + 22 * d + 4 * s + i) = u (36 + 22 * d + 4 * s + i)) : RS v := fun d hd s hs => (h d hd s hs).cg fun i hi => e d s i hd hs hi
theorem CV.cg {u v : Nat → Int32} {mm B : Nat} (h : CV u mm B) (e : ∀ n, n < 96 → v n = u n) : CV v mm B := by
  obtain ⟨⟨h1, h2, h3, h4, h5, h6, h7, h8⟩, o, w, a, h9, h10, h11⟩ := h
  exact ⟨⟨h1.c96 e, h2.cg fun d s i _ _ _ => e _ (by omega), h3.c96 e, h4.cg fun d _ => e _ (by omega), h5.cg fun j _ => e _ (by omega), h6.cg fun d _ => e _ (by omega), h7.cg fun n _ _ => e _ (by omega), h8.cg fun n _ => e _ (by omega)⟩, o, w, a, h9.cg fun d _ => ⟨e _ (by omega), e _ (by omega)⟩, (e _ (by omega)).trans h10, h11⟩
theorem CV.flg {x : Mem} {k mm B : Nat} (h : CV (x k) mm B) : FLG x k := fun d hd => ⟨h.1.2.2.2.1 d hd, fun s hs => (h.1.1 d hd s hs).imp id fun q => q.1⟩
/-! ===== a door hears ===== -/
theorem hrM_36 {x : Mem} {k d d' s' mm : Nat} {num : Int32} (hd : d < 3) (hd' : d' < 3) (hs' : s' < 4) : hrM x k d k num mm k (36 + 22 * d' + 4 * s') = x k (36 + 22 * d' + 4 * s') := by
  have ne1 : ∀ f, f < 6 → 36 + 22 * d' + 4 * s' ≠ 30 + f + 22 * d := fun f hf q => dp_ne f hd hd' hs' (i := 0) (by omega) hf q.symm
  rcases hr_or x k d mm num with ⟨-, -, e⟩ | ⟨-, ⟨-, -, e⟩ | ⟨s, t, hs, h1, ht, -, hne, ⟨-, -, e⟩ | ⟨-, -, e⟩⟩⟩ <;> rw [e]
  · rw [up_n _ _ (ne1 5 (by omega))]
  · rw [up_n _ _ (ne1 4 (by omega)), up_n _ _ (ne1 1 (by omega))]
  · have ne2 : 36 + 22 * d' + 4 * s' ≠ 38 + 22 * d + 4 * s ∧ 36 + 22 * d' + 4 * s' ≠ 39 + 22 * d + 4 * s := by
      rcases (show d = 0 ∨ d = 1 ∨ d = 2 by omega) with rfl | rfl | rfl <;> rcases (show d' = 0 ∨ d' = 1 ∨ d' = 2 by omega) with rfl | rfl | rfl <;> omega
    unfold opnM tak1
    rw [up_n _ _ (ne1 1 (by omega)), up_n _ _ (ne1 2 (by omega)), up_n _ _ (ne1 0 (by omega)), up_n _ _ ne2.2, up_n _ _ ne2.1]
  · have ne2 : 36 + 22 * d' + 4 * s' ≠ 39 + 22 * d + 4 * s := by
      rcases (show d = 0 ∨ d = 1 ∨ d = 2 by omega) with rfl | rfl | rfl <;> rcases (show d' = 0 ∨ d' = 1 ∨ d' = 2 by omega) with rfl | rfl | rfl <;> omega
    unfold tak0
    rw [up_n _ _ (ne1 3 (by omega)), up_n _ _ ne2]
theorem hrM_un {x : Mem} {k d d' s' i mm : Nat} {num : Int32} (hd : d < 3) (hd' : d' < 3) (hs' : s' < 4) (hi : i < 4) (h0 : x k (36 + 22 * d' + 4 * s') = 0) : hrM x k d k num mm k (36 + 22 * d' + 4 * s' + i) = x k (36 + 22 * d' + 4 * s' + i) := by
  have ne1 : ∀ f, f < 6 → 36 + 22 * d' + 4 * s' + i ≠ 30 + f + 22 * d := fun f hf q => dp_ne f hd hd' hs' hi hf q.symm
  rcases hr_or x k d mm num with ⟨-, -, e⟩ | ⟨-, ⟨-, -, e⟩ | ⟨s, t, hs, h1, ht, -, hne, ⟨-, -, e⟩ | ⟨-, -, e⟩⟩⟩ <;> rw [e]
  · rw [up_n _ _ (ne1 5 (by omega))]
  · rw [up_n _ _ (ne1 4 (by omega)), up_n _ _ (ne1 1 (by omega))]
  · have hq : ¬ (d' = d ∧ s' = s) := fun q => hne (by rw [← q.1, ← q.2]; exact h0)
    unfold opnM tak1
    rw [up_n _ _ (ne1 1 (by omega)), up_n _ _ (ne1 2 (by omega)), up_n _ _ (ne1 0 (by omega)), up_n _ _ (sl_ne 3 hd hd' hs hs' hi (by omega) hq), up_n _ _ (sl_ne 2 hd hd' hs hs' hi (by omega) hq)]
  · have hq : ¬ (d' = d ∧ s' = s) := fun q => hne (by rw [← q.1, ← q.2]; exact h0)
    unfold tak0
    rw [up_n _ _ (ne1 3 (by omega)), up_n _ _ (sl_ne 3 hd hd' hs hs' hi (by omega) hq)]
theorem UN.hr {x : Mem} {k d mm : Nat} {num : Int32} (h : UN (x k)) (hd : d < 3) : UN (hrM x k d k num mm k) := fun d' hd' s' hs' h0 i h1 h4 => by
  rw [hrM_36 hd hd' hs'] at h0
  rw [hrM_un hd hd' hs' h4 h0]
  exact h d' hd' s' hs' h0 i h1 h4
theorem WRB.hr {x : Mem} {k d mm B : Nat} {num : Int32} (h : WRB (x k) B) (hd : d < 3) : WRB (hrM x k d k num mm k) (B + 1) := fun d' hd' => by
  obtain ⟨r, h1, h2⟩ := h d' hd'
  by_cases q : d' = d
  · subst q
    rcases hr_or x k d' mm num with ⟨-, -, e⟩ | ⟨-, ⟨-, -, e⟩ | ⟨s, t, hs, h1', ht, -, hne, ⟨-, -, e⟩ | ⟨-, -, e⟩⟩⟩ <;> rw [e]
    · exact ⟨r, by omega, (up_n _ _ (by omega)).trans h2⟩
    · refine ⟨r + 1, by omega, ?_⟩
      rw [up_n _ _ (by omega), up_s, h2]
      exact nI_1 r
    · refine ⟨0, by omega, ?_⟩
      unfold opnM
      exact up_s _ _ _ _
    · refine ⟨r, by omega, ?_⟩
      unfold tak0
      rw [up_n _ _ (by omega), up_n _ _ (by omega)]
      exact h2
  · rw [hrM_o (by omega)]
    exact ⟨r, by omega, h2⟩
theorem OW.hr {x : Mem} {k d mm B : Nat} {o w : Nat → Nat} {num : Int32} (h : OW (x k) B o w) (hd : d < 3) : ∃ o' w' : Nat → Nat, OW (hrM x k d k num mm k) (B + 1) o' w' ∧ o' 0 + o' 1 + o' 2 = o 0 + o 1 + o 2 + (if hrR x k d k num mm = 0 then 1 else 0) := by
  have ho : ∀ d', d' < 3 → d' ≠ d → hrM x k d k num mm k (32 + 22 * d') = x k (32 + 22 * d') ∧ hrM x k d k num mm k (34 + 22 * d') = x k (34 + 22 * d') := fun d' _ q => ⟨hrM_o (by omega), hrM_o (by omega)⟩
  have hh := h d hd
  obtain ⟨h1, h2, h3⟩ := hh
  have fin : ∀ a b : Nat, hrM x k d k num mm k (32 + 22 * d) = nI a → hrM x k d k num mm k (34 + 22 * d) = nI b → a + b ≤ B + 1 → OW (hrM x k d k num mm k) (B + 1) (fun e => if e = d then a else o e) (fun e => if e = d then b else w e) := fun a b e1 e2 e3 d' hd' => by
    by_cases q : d' = d
    · subst q
      dsimp only
      rw [if_pos rfl, if_pos rfl]
      exact ⟨e1, e2, e3⟩
    · dsimp only
      rw [if_neg q, if_neg q, (ho d' hd' q).1, (ho d' hd' q).2]
      obtain ⟨g1, g2, g3⟩ := h d' hd'
      exact ⟨g1, g2, by omega⟩
  have sm : ∀ a : Nat, (if 0 = d then a else o 0) + (if 1 = d then a else o 1) + (if 2 = d then a else o 2) + o d = o 0 + o 1 + o 2 + a := fun a => by
    rcases (show d = 0 ∨ d = 1 ∨ d = 2 by omega) with rfl | rfl | rfl <;> simp <;> omega
  rcases hr_or x k d mm num with ⟨-, r, e⟩ | ⟨-, ⟨-, r, e⟩ | ⟨s, t, hs, h1', ht, -, hne, ⟨-, r, e⟩ | ⟨-, r, e⟩⟩⟩
  · refine ⟨_, _, fin (o d) (w d) (by rw [e, up_n _ _ (by omega)]; exact h1) (by rw [e, up_n _ _ (by omega)]; exact h2) (by omega), ?_⟩
    have := sm (o d)
    rw [r, if_neg (show ¬ (3 : Int32) = 0 by decide)]
    show (if 0 = d then _ else _) + (if 1 = d then _ else _) + (if 2 = d then _ else _) = _
    omega
  · refine ⟨_, _, fin (o d) (w d + 1) (by rw [e, up_n _ _ (by omega), up_n _ _ (by omega)]; exact h1) (by rw [e, up_s, h2]; exact nI_1 _) (by omega), ?_⟩
    have := sm (o d)
    rw [r, if_neg (show ¬ (2 : Int32) = 0 by decide)]
    show (if 0 = d then _ else _) + (if 1 = d then _ else _) + (if 2 = d then _ else _) = _
    omega
  · refine ⟨_, _, fin (o d + 1) (w d) ?_ ?_ (by omega), ?_⟩
    · rw [e]
      unfold opnM tak1
      rw [up_n _ _ (by omega), up_s, up_n _ _ (by omega), up_n _ _ (by omega), h1]
      exact nI_1 _
    · rw [e]
      unfold opnM tak1
      rw [up_n _ _ (by omega), up_n _ _ (by omega), up_n _ _ (by omega), up_n _ _ (by omega), up_n _ _ (by omega)]
      exact h2
    · have := sm (o d + 1)
      rw [r, if_pos rfl]
      show (if 0 = d then _ else _) + (if 1 = d then _ else _) + (if 2 = d then _ else _) = _
      omega
  · refine ⟨_, _, fin (o d) (w d) ?_ ?_ (by omega), ?_⟩
    · rw [e]
      unfold tak0
      rw [up_n _ _ (by omega), up_n _ _ (by omega)]
      exact h1
    · rw [e]
      unfold tak0
      rw [up_n _ _ (by omega), up_n _ _ (by omega)]
      exact h2
    · have := sm (o d)
      rw [r, if_neg (show ¬ (1 : Int32) = 0 by decide)]
      show (if 0 = d then _ else _) + (if 1 = d then _ else _) + (if 2 = d then _ else _) = _
      omega
theorem CW.hr {x : Mem} {k d mm B : Nat} {num : Int32} (h : CW (x k) mm B) (hd : d < 3) : CW (hrM x k d k num mm k) mm (B + 1) := by
  obtain ⟨h1, h2, h3, h4, h5, h6, h7, h8⟩ := h
  exact ⟨h1.hr hd h8.2.1, h2.hr hd, h3.cg fun n _ hn => hrM_lo hn, h4.hr hd, h5.cg fun j _ => hrM_lo (by omega), h6.hr hd, h7.cg fun n _ _ => hrM_lo (by omega), h8.cg fun n _ => hrM_lo (by omega)⟩
/-! ===== a number is sent ===== -/
theorem or_bit : ∀ d, d < 3 → ∀ b, b < 2 ^ d → nI b ||| (1 <<< (nI d &&& 31)) = nI (b + 2 ^ d) ∧ ones3 (b + 2 ^ d) = ones3 b + 1 := by decide +kernel
theorem CW.snd {x : Mem} {k mm B : Nat} {o w : Nat → Nat} {msk num : Int32} (h : CW (x k) mm B) (hO : OW (x k) B o w) : ∀ d, d ≤ 3 → CW ((sendS x k msk num mm d).2 k) mm (B + d) ∧
    ∃ (b : Nat) (o' w' : Nat → Nat), b < 2 ^ d ∧ (sendS x k msk num mm d).1 = nI b ∧ OW ((sendS x k msk num mm d).2 k) (B + d) o' w' ∧ o' 0 + o' 1 + o' 2 = o 0 + o 1 + o 2 + ones3 b
  | 0, _ => ⟨h, 0, o, w, by omega, rfl, hO, rfl⟩
  | d + 1, hd => by
    obtain ⟨i1, b, o1, w1, i2, i3, i4, i5⟩ := CW.snd h hO (msk := msk) (num := num) d (by omega)
    have h2 : 2 ^ (d + 1) = 2 ^ d + 2 ^ d := by rw [Nat.pow_succ]; omega
    by_cases hm : (msk >>> (nI d &&& 31)) &&& 1 = 1
    · rw [sendS_y hm]
      obtain ⟨o2, w2, j1, j2⟩ := i4.hr (num := num) (mm := mm) (d := d) (by omega)
      refine ⟨i1.hr (by omega), ?_⟩
      by_cases hr : hrR (sendS x k msk num mm d).2 k d k num mm = 0
      · obtain ⟨q1, q2⟩ := or_bit d (by omega) b i2
        refine ⟨b + 2 ^ d, o2, w2, by omega, ?_, j1, ?_⟩
        · show (if _ then _ else _) = _
          rw [if_pos hr, i3]
          exact q1
        · rw [j2, if_pos hr, i5, q2]
          omega
      · refine ⟨b, o2, w2, by omega, ?_, j1, ?_⟩
        · show (if _ then _ else _) = _
          rw [if_neg hr]
          exact i3
        · rw [j2, if_neg hr, i5]
          omega
    · rw [sendS_n hm]
      exact ⟨i1.le (by omega), b, o1, w1, by omega, i3, i4.le (by omega), i5⟩
theorem CV.snd {x : Mem} {k mm B : Nat} {msk num : Int32} (h : CV (x k) mm B) : CV ((sendS x k msk num mm 3).2 k) mm (B + 3) := by
  obtain ⟨h1, o, w, a, h2, h3, h4⟩ := h
  obtain ⟨i1, b, o', w', -, -, i4, i5⟩ := CW.snd h1 h2 (msk := msk) (num := num) 3 (by omega)
  exact ⟨i1, o', w', a, i4, (sendS_lo (by omega) 3).trans h3, by omega⟩
/-- the doors that a number would open -/
def dueS (x : Mem) (num msk : Int32) (mm : Nat) : Nat → Int32
  | 0 => 0
  | d + 1 => dueS x num msk mm d ||| (if (msk >>> (nI d &&& 31)) &&& 1 = 1 then (if hrR x 0 d 0 num mm = 0 then 1 <<< (nI d &&& 31) else 0) else 0)
theorem sendS_o {x : Mem} {k n mm : Nat} {msk num : Int32} : ∀ d, (30 + 22 * d ≤ n) → (sendS x k msk num mm d).2 k n = x k n
  | 0, _ => rfl
  | d + 1, hn => by
    by_cases hm : (msk >>> (nI d &&& 31)) &&& 1 = 1
    · rw [sendS_y hm]
      exact (hrM_o (by omega)).trans (sendS_o d (by omega))
    · rw [sendS_n hm]
      exact sendS_o d (by omega)
theorem or_zr (v : Int32) : v ||| 0 = v := by simp
/-- what a number would do is what it does -/
theorem snd_due {x z : Mem} {mm : Nat} {msk num : Int32} (h0 : z 0 0 = x 0 0) (h2 : z 0 2 = x 0 2) (h30 : ∀ n, 30 ≤ n → n < 96 → z 0 n = x 0 n) : ∀ d, d ≤ 3 → (sendS z 0 msk num mm d).1 = dueS x num msk mm d
  | 0, _ => rfl
  | d + 1, hd => by
    have ih := snd_due h0 h2 h30 (msk := msk) (num := num) (mm := mm) d (by omega)
    have hr : hrR (sendS z 0 msk num mm d).2 0 d 0 num mm = hrR x 0 d 0 num mm := E7.hr (fun n hn => (sendS_o d (by omega)).trans (h30 _ (by omega) (by omega))) ((sendS_lo (by omega) d).trans h2) ((sendS_lo (by omega) d).trans h0)
    unfold dueS
    by_cases hm : (msk >>> (nI d &&& 31)) &&& 1 = 1
    · rw [sendS_y hm, if_pos hm]
      show (if _ then _ else _) = _
      rw [hr, ih]
      by_cases q : hrR x 0 d 0 num mm = 0
      · rw [if_pos q, if_pos q]
      · rw [if_neg q, if_neg q, or_zr]
    · rw [sendS_n hm, if_neg hm, or_zr]
      exact ih
theorem due_cg {x y : Mem} {num msk : Int32} {mm : Nat} (h : E7 x y) : ∀ d, dueS y num msk mm d = dueS x num msk mm d
  | 0 => rfl
  | d + 1 => by
    unfold dueS
    rw [due_cg h d, h.hrd]
/-! ===== the calls keep what always holds ===== -/
theorem nu_lt (a b : Int32) : ∃ q : Nat, q < 65536 ∧ nu a b = nI q := pk_andE _ 16 (by decide +kernel)
theorem AR.rec {x : Mem} {k q : Nat} (h : AR (x k)) (hq : q < 65536) : AR (recF x k (nI q) k) := by
  obtain ⟨nr, h1, h2, h3⟩ := h
  have h5 : recF x k (nI q) k 5 = nI (if nr + 1 ≤ 8 then nr + 1 else 8) := by
    unfold recF
    rw [up_s, h2, nI_1]
    by_cases h9 : nr + 1 ≤ 8
    · rw [if_pos h9]
      exact if_neg (fun q => absurd ((nI_ltI (a := 8) (b := nr + 1) (by omega) (by omega)).mp q) (by omega))
    · rw [if_neg h9]
      exact if_pos ((nI_ltI (a := 8) (b := nr + 1) (by omega) (by omega)).mpr (by omega))
  refine ⟨_, ?_, h5, fun i hi => ?_⟩
  · split <;> omega
  · have hi9 : i < nr + 1 ∧ i < 8 := by split at hi <;> omega
    unfold recF
    rw [up_n _ _ (by omega)]
    by_cases i0 : i = 0
    · rw [i0, up_s]
      exact ⟨q, hq, rfl⟩
    · rw [up_n _ _ (by omega)]
      unfold shA
      rw [if_pos ⟨rfl, by omega, by omega⟩, show 6 + i - 1 = 6 + (i - 1) by omega]
      exact h3 (i - 1) (by omega)
theorem CV.rs {x : Mem} {j mm B : Nat} (h : CV (x 0) mm B) (hj : j < 4) (hb : ¬ x 0 (16 + 4 * j) ≤ 0) : CV (recF (sndF x 0 j) 0 (nxtN x 0 j) 0) mm B := by
  obtain ⟨⟨h1, h2, h3, h4, h5, h6, h7, h8⟩, o, w, a, h9, h10, h11⟩ := h
  have hi : ∀ n, 30 ≤ n → recF (sndF x 0 j) 0 (nxtN x 0 j) 0 n = x 0 n := fun n hn => rs_hi hj hn
  have lo : ∀ n, n < 5 → recF (sndF x 0 j) 0 (nxtN x 0 j) 0 n = x 0 n := fun n hn => rs_lo hn
  have hfr : ∀ i n, i < 4 → i ≠ j → 14 ≤ n → n < 17 → recF (sndF x 0 j) 0 (nxtN x 0 j) 0 (n + 4 * i) = x 0 (n + 4 * i) := fun i n h4 hij n1 n2 => by
    unfold recF sndF
    rw [up_n _ _ (by omega), up_n _ _ (by omega)]
    unfold shA
    rw [if_neg (by omega), up_n _ _ (by omega), up_n _ _ (by omega), up_n _ _ (by omega)]
  refine ⟨⟨h1.cg fun d s i _ _ _ => hi _ (by omega), h2.cg fun d s i _ _ _ => hi _ (by omega), fun i hi4 => ?_, h4.cg fun d _ => hi _ (by omega), fun i hi4 => ?_, h6.cg fun d _ => hi _ (by omega), ?_, h8.cg fun n hn => lo n (by omega)⟩, o, w, a, h9.cg fun d _ => ⟨hi _ (by omega), hi _ (by omega)⟩, (lo 4 (by omega)).trans h10, h11⟩
  · obtain ⟨a, b, ha, hb', e1, e2⟩ := h3 i hi4
    by_cases q : i = j
    · subst q
      refine ⟨a, (b + 1) % 10000, ha, Nat.mod_lt _ (by omega), ?_, ?_⟩
      · refine (rs_f (i := 0) hj (by omega)).trans ?_
        rw [if_neg (by omega), if_neg (by omega), if_neg (by omega)]
        exact e1
      · refine (rs_f (i := 1) hj (by omega)).trans ?_
        rw [if_pos rfl, e2, nx_n hb']
    · exact ⟨a, b, ha, hb', (hfr i 14 hi4 q (by omega) (by omega)).trans e1, (hfr i 15 hi4 q (by omega) (by omega)).trans e2⟩
  · obtain ⟨nb, e1, e2⟩ := h5 i hi4
    by_cases q : i = j
    · subst q
      have hp : 0 < nb := Nat.pos_of_ne_zero fun q => hb (by rw [e2, q]; decide)
      refine ⟨nb - 1, by omega, ?_⟩
      refine (rs_f (i := 2) hj (by omega)).trans ?_
      rw [if_neg (by omega), if_pos rfl, e2]
      exact pk_sub (a := nb) (b := 1) (by omega)
    · exact ⟨nb, e1, (hfr i 16 hi4 q (by omega) (by omega)).trans e2⟩
  · obtain ⟨q, hq, e⟩ := nu_lt (x 0 (14 + 4 * j)) (nx (x 0 (15 + 4 * j)))
    have e' : nxtN x 0 j = nI q := e
    rw [e']
    refine AR.rec (AR.cg h7 fun n n1 n2 => ?_) hq
    unfold sndF
    rw [up_n _ _ (by omega), up_n _ _ (by omega), up_n _ _ (by omega)]
theorem CV.prs {x : Mem} {j mm B : Nat} {msk : Int32} (h : CV (x 0) mm B) (hj : j < 4) (hb : ¬ x 0 (16 + 4 * j) ≤ 0) : CV ((prsS x 0 j msk mm).2 0) mm (B + 3) := (h.rs hj hb).snd
theorem CV.agn {x : Mem} {ii mm B : Nat} {msk : Int32} (h : CV (x 0) mm B) : CV ((agnS x ii msk mm).2 0) mm (B + 3) := by
  obtain ⟨⟨h1, h2, h3, h4, h5, h6, h7, h8⟩, o, w, a, h9, h10, h11⟩ := h
  obtain ⟨z, hz⟩ : ∃ z, z = up x 0 3 (x 0 3 + 1) := ⟨_, rfl⟩
  have zn : ∀ n, n ≠ 3 → z 0 n = x 0 n := fun n hn => by rw [hz]; exact up_n _ _ hn
  have hw : CW (z 0) mm B := ⟨h1.cg fun d s i _ _ _ => zn _ (by omega), h2.cg fun d s i _ _ _ => zn _ (by omega), h3.cg fun n _ _ => zn _ (by omega), h4.cg fun d _ => zn _ (by omega), h5.cg fun d _ => zn _ (by omega), h6.cg fun d _ => zn _ (by omega), h7.cg fun n _ _ => zn _ (by omega), h8.cg fun n _ => zn _ (by omega)⟩
  have hO : OW (z 0) B o w := h9.cg fun d _ => ⟨zn _ (by omega), zn _ (by omega)⟩
  obtain ⟨i1, b, o', w', i2, i3, i4, i5⟩ := CW.snd hw hO (msk := msk) (num := numA z 0 (nI ii)) 3 (by omega)
  have e4 : (sendS z 0 msk (numA z 0 (nI ii)) mm 3).2 0 4 = nI a := (sendS_lo (by omega) 3).trans ((zn 4 (by omega)).trans h10)
  have hy : (agnS x ii msk mm).2 = up (sendS z 0 msk (numA z 0 (nI ii)) mm 3).2 0 4 (nI (a + ones3 b)) := by
    have : (agnS x ii msk mm).2 = up (sendS z 0 msk (numA z 0 (nI ii)) mm 3).2 0 4 ((sendS z 0 msk (numA z 0 (nI ii)) mm 3).2 0 4 + nI (ones3 (sendS z 0 msk (numA z 0 (nI ii)) mm 3).1.toNatClampNeg)) := by rw [hz]; rfl
    rw [this, e4, i3, nI_clamp (by omega), nI_add]
  rw [hy]
  obtain ⟨y, hyy⟩ : ∃ y, y = (sendS z 0 msk (numA z 0 (nI ii)) mm 3).2 := ⟨_, rfl⟩
  rw [← hyy] at i1 i4 ⊢
  have yn : ∀ n, n ≠ 4 → up y 0 4 (nI (a + ones3 b)) 0 n = y 0 n := fun n hn => up_n _ _ hn
  obtain ⟨h1, h2, h3, h4, h5, h6, h7, h8⟩ := i1
  exact ⟨⟨h1.cg fun d s i _ _ _ => yn _ (by omega), h2.cg fun d s i _ _ _ => yn _ (by omega), h3.cg fun n _ _ => yn _ (by omega), h4.cg fun d _ => yn _ (by omega), h5.cg fun d _ => yn _ (by omega), h6.cg fun d _ => yn _ (by omega), h7.cg fun n _ _ => yn _ (by omega), h8.cg fun n _ => yn _ (by omega)⟩, o', w', a + ones3 b, i4.cg fun d _ => ⟨yn _ (by omega), yn _ (by omega)⟩, up_s _ _ _ _, by omega⟩
/-- one place of the block is set, that no slot, no number of openings holds -/
theorem CV.put {x : Mem} {n mm mm' B : Nat} {v : Int32} (h : CV (x 0) mm B) (hn : n < 30 ∨ ∃ d, d < 3 ∧ (n = 30 + 22 * d ∨ n = 31 + 22 * d)) (hn4 : n ≠ 4) (h3 : RF (up x 0 n v 0)) (h4 : DF (up x 0 n v 0)) (h5 : BT (up x 0 n v 0)) (h6 : WRB (up x 0 n v 0) B) (h7 : AR (up x 0 n v 0)) (h8 : SE (up x 0 n v 0) mm') : CV (up x 0 n v 0) mm' B := by
  obtain ⟨⟨h1, h2, -, -, -, -, -, -⟩, o, w, a, h9, h10, h11⟩ := h
  have hs : ∀ d s i, d < 3 → s < 4 → i < 4 → up x 0 n v 0 (36 + 22 * d + 4 * s + i) = x 0 (36 + 22 * d + 4 * s + i) := fun d s i hd hs hi => by
    refine up_n _ _ fun q => ?_
    rcases hn with hn | ⟨d', hd', hn | hn⟩
    · omega
    · exact dp_ne (d := d') 0 hd' hd hs hi (by omega) (by omega)
    · exact dp_ne (d := d') 1 hd' hd hs hi (by omega) (by omega)
  have ho : ∀ d, d < 3 → up x 0 n v 0 (32 + 22 * d) = x 0 (32 + 22 * d) ∧ up x 0 n v 0 (34 + 22 * d) = x 0 (34 + 22 * d) := fun d hd => by
    refine ⟨up_n _ _ fun q => ?_, up_n _ _ fun q => ?_⟩ <;> rcases hn with hn | ⟨d', hd', hn | hn⟩ <;> omega
  exact ⟨⟨h1.cg hs, h2.cg hs, h3, h4, h5, h6, h7, h8⟩, o, w, a, h9.cg ho, (up_n _ _ (by omega)).trans h10, h11⟩
theorem CV.shut {x : Mem} {d mm B : Nat} (h : CV (x 0) mm B) (hd : d < 3) : CV (up x 0 (30 + 22 * d) 0 0) mm B := by
  have h' := h
  obtain ⟨⟨-, -, h3, h4, h5, h6, h7, h8⟩, -⟩ := h'
  refine h.put (Or.inr ⟨d, hd, Or.inl rfl⟩) (by omega) (h3.cg fun n _ _ => up_n _ _ (by omega)) (fun d' hd' => ?_) (h5.cg fun j _ => up_n _ _ (by omega)) (h6.cg fun d' _ => up_n _ _ (by omega)) (h7.cg fun n _ _ => up_n _ _ (by omega)) (h8.cg fun n _ => up_n _ _ (by omega))
  by_cases q : d' = d
  · rw [q, up_s]
    exact Or.inl rfl
  · rw [up_n _ _ (by omega)]
    exact h4 d' hd'
theorem CV.unl {x : Mem} {d mm B : Nat} (h : CV (x 0) mm B) (hd : d < 3) : CV (up x 0 (31 + 22 * d) 0 0) mm B := by
  have h' := h
  obtain ⟨⟨-, -, h3, h4, h5, h6, h7, h8⟩, -⟩ := h'
  refine h.put (Or.inr ⟨d, hd, Or.inr rfl⟩) (by omega) (h3.cg fun n _ _ => up_n _ _ (by omega)) (h4.cg fun d' _ => up_n _ _ (by omega)) (h5.cg fun j _ => up_n _ _ (by omega)) (fun d' hd' => ?_) (h7.cg fun n _ _ => up_n _ _ (by omega)) (h8.cg fun n _ => up_n _ _ (by omega))
  by_cases q : d' = d
  · rw [q, up_s]
    exact ⟨0, by omega, rfl⟩
  · rw [up_n _ _ (by omega)]
    exact h6 d' hd'
theorem CV.bat {x : Mem} {j a mm B : Nat} (h : CV (x 0) mm B) (hj : j < 4) (ha : a ≤ 999) : CV (up x 0 (16 + 4 * j) (nI a) 0) mm B := by
  have h' := h
  obtain ⟨⟨-, -, h3, h4, h5, h6, h7, h8⟩, -⟩ := h'
  refine h.put (Or.inl (by omega)) (by omega) (fun i hi => ?_) (h4.cg fun d' _ => up_n _ _ (by omega)) (fun i hi => ?_) (h6.cg fun d' _ => up_n _ _ (by omega)) (h7.cg fun n _ _ => up_n _ _ (by omega)) (h8.cg fun n _ => up_n _ _ (by omega))
  · rw [up_n _ _ (by omega), up_n _ _ (by omega)]
    exact h3 i hi
  · by_cases q : i = j
    · rw [q, up_s]
      exact ⟨a, ha, rfl⟩
    · rw [up_n _ _ (by omega)]
      exact h5 i hi
theorem CV.mak {x : Mem} {j a b mm B : Nat} (h : CV (x 0) mm B) (hj : j < 4) (ha : a < 10000) (hb : b < 10000) : CV (up (up x 0 (14 + 4 * j) (nI a)) 0 (15 + 4 * j) (nI b) 0) mm B := by
  have h' := h
  obtain ⟨⟨-, -, h3, h4, h5, h6, h7, h8⟩, -⟩ := h'
  have g : CV (up x 0 (14 + 4 * j) (nI a) 0) mm B := by
    refine h.put (Or.inl (by omega)) (by omega) (fun i hi => ?_) (h4.cg fun d' _ => up_n _ _ (by omega)) (h5.cg fun i _ => up_n _ _ (by omega)) (h6.cg fun d' _ => up_n _ _ (by omega)) (h7.cg fun n _ _ => up_n _ _ (by omega)) (h8.cg fun n _ => up_n _ _ (by omega))
    obtain ⟨a', b', q1, q2, e1, e2⟩ := h3 i hi
    by_cases q : i = j
    · subst q
      exact ⟨a, b', ha, q2, up_s _ _ _ _, (up_n _ _ (by omega)).trans e2⟩
    · exact ⟨a', b', q1, q2, (up_n _ _ (by omega)).trans e1, (up_n _ _ (by omega)).trans e2⟩
  have g' := g
  obtain ⟨⟨-, -, h3, h4, h5, h6, h7, h8⟩, -⟩ := g'
  refine g.put (Or.inl (by omega)) (by omega) (fun i hi => ?_) (h4.cg fun d' _ => up_n _ _ (by omega)) (h5.cg fun i _ => up_n _ _ (by omega)) (h6.cg fun d' _ => up_n _ _ (by omega)) (h7.cg fun n _ _ => up_n _ _ (by omega)) (h8.cg fun n _ => up_n _ _ (by omega))
  obtain ⟨a', b', q1, q2, e1, e2⟩ := h3 i hi
  by_cases q : i = j
  · subst q
    exact ⟨a', b, q1, hb, (up_n _ _ (by omega)).trans e1, up_s _ _ _ _⟩
  · exact ⟨a', b', q1, q2, (up_n _ _ (by omega)).trans e1, (up_n _ _ (by omega)).trans e2⟩
theorem CV.set {x : Mem} {n a mm mm' B : Nat} (h : CV (x 0) mm B) (hn : (n = 0 ∧ a ≤ 64 ∧ mm' = mm) ∨ (n = 1 ∧ a ≤ 500 ∧ mm' = a) ∨ (n = 2 ∧ a ≤ 20 ∧ mm' = mm)) : CV (up x 0 n (nI a) 0) mm' B := by
  have h' := h
  obtain ⟨⟨-, -, h3, h4, h5, h6, h7, h8⟩, -⟩ := h'
  have hn3 : n < 3 := by omega
  refine h.put (Or.inl (by omega)) (by omega) (h3.cg fun m _ _ => up_n _ _ (by omega)) (h4.cg fun d' _ => up_n _ _ (by omega)) (h5.cg fun i _ => up_n _ _ (by omega)) (h6.cg fun d' _ => up_n _ _ (by omega)) (h7.cg fun m _ _ => up_n _ _ (by omega)) ?_
  obtain ⟨s1, s2, ⟨p, s3, s4⟩, q, s5, s6⟩ := h8
  rcases hn with ⟨rfl, ha, rfl⟩ | ⟨rfl, ha, rfl⟩ | ⟨rfl, ha, rfl⟩
  · exact ⟨(up_n _ _ (by omega)).trans s1, s2, ⟨a, ha, up_s _ _ _ _⟩, q, s5, (up_n _ _ (by omega)).trans s6⟩
  · exact ⟨up_s _ _ _ _, ha, ⟨p, s3, (up_n _ _ (by omega)).trans s4⟩, q, s5, (up_n _ _ (by omega)).trans s6⟩
  · exact ⟨(up_n _ _ (by omega)).trans s1, s2, ⟨p, s3, (up_n _ _ (by omega)).trans s4⟩, a, ha, up_s _ _ _ _⟩
/-- a slot is set -/
theorem CV.slt {x y : Mem} {d s mm B : Nat} (h : CV (x 0) mm B) (hd : d < 3) (hs : s < 4) (e : ∀ n, ¬ (36 + 22 * d + 4 * s ≤ n ∧ n < 40 + 22 * d + 4 * s) → y 0 n = x 0 n) (h1 : Sl (y 0) d s) (h2 : y 0 (36 + 22 * d + 4 * s) = 0 → ∀ i, 0 < i → i < 4 → y 0 (36 + 22 * d + 4 * s + i) = -1) : CV (y 0) mm B := by
  obtain ⟨⟨g1, g2, g3, g4, g5, g6, g7, g8⟩, o, w, a, g9, g10, g11⟩ := h
  have hf : ∀ f d', f < 6 → d' < 3 → y 0 (30 + f + 22 * d') = x 0 (30 + f + 22 * d') := fun f d' hf hd' => e _ fun q => dp_ne (d := d') (d' := d) (s' := s) (i := 30 + f + 22 * d' - (36 + 22 * d + 4 * s)) f hd' hd hs (by omega) hf (by omega)
  have lo : ∀ n, n < 30 → y 0 n = x 0 n := fun n hn => e n (by omega)
  have sl : ∀ d' s' i, d' < 3 → s' < 4 → i < 4 → ¬ (d' = d ∧ s' = s) → y 0 (36 + 22 * d' + 4 * s' + i) = x 0 (36 + 22 * d' + 4 * s' + i) := fun d' s' i hd' hs' hi q => e _ fun z => sl_ne (i := i) (36 + 22 * d' + 4 * s' + i - (36 + 22 * d + 4 * s)) hd hd' hs hs' hi (by omega) q (by omega)
  refine ⟨⟨fun d' hd' s' hs' => ?_, fun d' hd' s' hs' => ?_, g3.cg fun n _ hn => lo n hn, g4.cg fun d' hd' => hf 0 d' (by omega) hd', g5.cg fun j hj => lo _ (by omega), g6.cg fun d' hd' => hf 1 d' (by omega) hd', g7.cg fun n _ hn => lo n (by omega), g8.cg fun n hn => lo n (by omega)⟩, o, w, a, g9.cg fun d' hd' => ⟨hf 2 d' (by omega) hd', hf 4 d' (by omega) hd'⟩, (lo 4 (by omega)).trans g10, g11⟩
  · by_cases q : d' = d ∧ s' = s
    · rw [q.1, q.2]
      exact h1
    · exact (g1 d' hd' s' hs').cg fun i hi => sl d' s' i hd' hs' hi q
  · by_cases q : d' = d ∧ s' = s
    · rw [q.1, q.2]
      exact h2
    · intro h0 i i0 i4
      rw [sl d' s' i hd' hs' i4 q]
      exact g2 d' hd' s' hs' ((sl d' s' 0 hd' hs' (by omega) q).symm.trans h0) i i0 i4
theorem CV.lrn {x : Mem} {d s j mm B : Nat} (h : CV (x 0) mm B) (hd : d < 3) (hs : s < 4) (hj : j < 4) : CV (lrnS x 0 d s 0 j 0) mm B := by
  obtain ⟨a, b, ha, hb, e1, e2⟩ := h.1.2.2.1 j hj
  refine h.slt hd hs (fun n hn => ?_) (Or.inr ⟨?_, a, b, ha, hb, ?_, ?_, Or.inl ?_⟩) (fun q => absurd q ?_) <;> unfold lrnS
  · rw [up_n _ _ (by omega), up_n _ _ (by omega), up_n _ _ (by omega), up_n _ _ (by omega)]
  · rw [up_n _ _ (by omega), up_n _ _ (by omega), up_n _ _ (by omega), up_s]
  · rw [up_n _ _ (by omega), up_n _ _ (by omega), up_s]
    exact e1
  · rw [up_n _ _ (by omega), up_s]
    exact e2
  · exact up_s _ _ _ _
  · rw [up_n _ _ (by omega), up_n _ _ (by omega), up_n _ _ (by omega), up_s]
    decide
theorem CV.emp {x : Mem} {d s mm B : Nat} (h : CV (x 0) mm B) (hd : d < 3) (hs : s < 4) : CV (empS x 0 d s 0) mm B := by
  refine h.slt hd hs (fun n hn => ?_) (Or.inl ?_) (fun _ i i0 i4 => ?_) <;> unfold empS
  · rw [up_n _ _ (by omega), up_n _ _ (by omega), up_n _ _ (by omega), up_n _ _ (by omega)]
  · rw [up_n _ _ (by omega), up_n _ _ (by omega), up_n _ _ (by omega), up_s]
  · rcases (show i = 1 ∨ i = 2 ∨ i = 3 by omega) with rfl | rfl | rfl
    · rw [up_n _ _ (by omega), up_n _ _ (by omega), show 36 + 22 * d + 4 * s + 1 = 37 + 22 * d + 4 * s by omega, up_s]
    · rw [up_n _ _ (by omega), show 36 + 22 * d + 4 * s + 2 = 38 + 22 * d + 4 * s by omega, up_s]
    · rw [show 36 + 22 * d + 4 * s + 3 = 39 + 22 * d + 4 * s by omega, up_s]
