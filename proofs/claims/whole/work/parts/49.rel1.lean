/-! ===== the relation: the component's state and the model's ===== -/
def ub (u : Nat → Int32) (q : Nat) (a : Int32) : Nat → Int32 := fun n => if n = q then a else u n
theorem ub_s {u : Nat → Int32} {q : Nat} {a : Int32} : ub u q a q = a := if_pos rfl
theorem ub_n {u : Nat → Int32} {q n : Nat} {a : Int32} (h : n ≠ q) : ub u q a n = u n := if_neg h
theorem up_ub {x : Mem} {k q : Nat} {a : Int32} : up x k q a k = ub (x k) q a := by
  funext n
  simp [up, ub]
def DR (u : Nat → Int32) (d : Nat) (v : Nat → Int32) (d' : Nat) : Prop :=
  (∀ f, f < 6 → u (30 + f + 22 * d) = v (30 + f + 22 * d')) ∧
  ∀ s, s < 4 → u (36 + 22 * d + 4 * s) = v (36 + 22 * d' + 4 * s) ∧ ∀ i, 0 < i → i < 4 → u (36 + i + 22 * d + 4 * s) = if v (36 + 22 * d' + 4 * s) = 0 then -1 else v (36 + i + 22 * d' + 4 * s)
theorem DR.up_f {u v : Nat → Int32} {d d' f : Nat} {a b : Int32} (h : DR u d v d') (hf : f < 6) (e : a = b) : DR (ub u (30 + f + 22 * d) a) d (ub v (30 + f + 22 * d') b) d' := by
  refine ⟨fun g hg => ?_, fun s hs => ⟨?_, fun i h0 hi => ?_⟩⟩
  · by_cases hgf : g = f
    · rw [hgf, ub_s, ub_s, e]
    · rw [ub_n (by omega), ub_n (by omega)]
      exact h.1 g hg
  · rw [ub_n (by omega), ub_n (by omega)]
    exact (h.2 s hs).1
  · rw [ub_n (by omega), ub_n (by omega), ub_n (by omega)]
    exact (h.2 s hs).2 i h0 hi
theorem DR.up_s {u v : Nat → Int32} {d d' s i : Nat} {a b : Int32} (h : DR u d v d') (hs : s < 4) (h0 : 0 < i) (hi : i < 4) (hL : v (36 + 22 * d' + 4 * s) ≠ 0) (e : a = b) : DR (ub u (36 + i + 22 * d + 4 * s) a) d (ub v (36 + i + 22 * d' + 4 * s) b) d' := by
  refine ⟨fun g hg => ?_, fun s' hs' => ⟨?_, fun j h0' hj => ?_⟩⟩
  · rw [ub_n (by omega), ub_n (by omega)]
    exact h.1 g hg
  · rw [ub_n (by omega), ub_n (by omega)]
    exact (h.2 s' hs').1
  · rw [ub_n (n := 36 + 22 * d' + 4 * s') (by omega)]
    by_cases hq : s' = s ∧ j = i
    · rw [hq.1, hq.2, ub_s, ub_s, if_neg hL, e]
    · rw [ub_n (by omega), ub_n (by omega)]
      exact (h.2 s' hs').2 j h0' hj
theorem DR.fr {u v u' v' : Nat → Int32} {d d' : Nat} (h : DR u d v d') (hu : ∀ n, 30 + 22 * d ≤ n → n < 52 + 22 * d → u' n = u n) (hv : ∀ n, 30 + 22 * d' ≤ n → n < 52 + 22 * d' → v' n = v n) : DR u' d v' d' := by
  refine ⟨fun g hg => ?_, fun s hs => ⟨?_, fun i h0 hi => ?_⟩⟩
  · rw [hu _ (by omega) (by omega), hv _ (by omega) (by omega)]
    exact h.1 g hg
  · rw [hu _ (by omega) (by omega), hv _ (by omega) (by omega)]
    exact (h.2 s hs).1
  · rw [hu _ (by omega) (by omega), hv _ (by omega) (by omega), hv _ (by omega) (by omega)]
    exact (h.2 s hs).2 i h0 hi
theorem DR.sl {u v : Nat → Int32} {d d' s i : Nat} (h : DR u d v d') (hs : s < 4) (h0 : 0 < i) (hi : i < 4) (hL : v (36 + 22 * d' + 4 * s) ≠ 0) : u (36 + i + 22 * d + 4 * s) = v (36 + i + 22 * d' + 4 * s) := by
  rw [(h.2 s hs).2 i h0 hi, if_neg hL]
theorem stp_dr {x y : Mem} {k k' d d' s : Nat} {num : Int32} {mm : Nat} (h : DR (x k) d (y k') d') (hs : s < 4) : stpS x k d s num mm = stpS y k' d' s num mm := by
  unfold stpS
  have e0 := (h.2 s hs).1
  rw [e0]
  by_cases hL : y k' (36 + 22 * d' + 4 * s) = 0
  · rw [if_pos hL, if_pos hL]
  · have e1 : x k (37 + 22 * d + 4 * s) = y k' (37 + 22 * d' + 4 * s) := h.sl hs (i := 1) (by omega) (by omega) hL
    have e2 : x k (38 + 22 * d + 4 * s) = y k' (38 + 22 * d' + 4 * s) := h.sl hs (i := 2) (by omega) (by omega) hL
    rw [if_neg hL, if_neg hL, e1, e2]
theorem mt_dr {x y : Mem} {k k' d d' : Nat} {num : Int32} {mm : Nat} (h : DR (x k) d (y k') d') : ∀ f s, s + f = 4 → mt x k d num mm f s = mt y k' d' num mm f s
  | 0, _, _ => rfl
  | f + 1, s, e => by
    have e1 := stp_dr h (s := s) (num := num) (mm := mm) (by omega)
    unfold mt
    rw [e1, mt_dr h f (s + 1) (by omega)]
theorem mean_dr {x y : Mem} {k k' d d' : Nat} {num : Int32} {mm : Nat} (h : DR (x k) d (y k') d') : mean x k d num mm = mean y k' d' num mm := mt_dr h 4 0 rfl
theorem tk_dr {x y : Mem} {k k' d d' s : Nat} {t w w' : Int32} (h : DR (x k) d (y k') d') (hs : s < 4) (hL : y k' (36 + 22 * d' + 4 * s) ≠ 0) (hw : w = w') : takS x k d s t w ↔ takS y k' d' s t w' := by
  have e2 : x k (38 + 22 * d + 4 * s) = y k' (38 + 22 * d' + 4 * s) := h.sl hs (i := 2) (by omega) (by omega) hL
  have e3 : x k (39 + 22 * d + 4 * s) = y k' (39 + 22 * d' + 4 * s) := h.sl hs (i := 3) (by omega) (by omega) hL
  unfold takS
  rw [e2, e3, hw]
theorem tak1_dr {x y : Mem} {k k' d d' s : Nat} {t : Int32} (h : DR (x k) d (y k') d') (hs : s < 4) (hL : y k' (36 + 22 * d' + 4 * s) ≠ 0) : DR (tak1 x k d s t k) d (tak1 y k' d' s t k') d' := by
  have e2 : x k (38 + 22 * d + 4 * s) = y k' (38 + 22 * d' + 4 * s) := h.sl hs (i := 2) (by omega) (by omega) hL
  unfold tak1
  rw [up_ub, up_ub, up_ub, up_ub]
  have h1 := h.up_s hs (i := 2) (by omega) (by omega) hL (show ctr (x k (38 + 22 * d + 4 * s)) t = ctr (y k' (38 + 22 * d' + 4 * s)) t by rw [e2])
  exact h1.up_s hs (i := 3) (a := -1) (b := -1) (by omega) (by omega) (by rw [ub_n (by omega)]; exact hL) rfl
theorem tak0_dr {x y : Mem} {k k' d d' s : Nat} {t : Int32} (h : DR (x k) d (y k') d') (hs : s < 4) (hL : y k' (36 + 22 * d' + 4 * s) ≠ 0) : DR (tak0 x k d s t k) d (tak0 y k' d' s t k') d' := by
  have e2 : x k (38 + 22 * d + 4 * s) = y k' (38 + 22 * d' + 4 * s) := h.sl hs (i := 2) (by omega) (by omega) hL
  unfold tak0
  rw [up_ub, up_ub]
  exact h.up_s hs (i := 3) (by omega) (by omega) hL (show ctr (x k (38 + 22 * d + 4 * s)) t = ctr (y k' (38 + 22 * d' + 4 * s)) t by rw [e2])
theorem opn_dr {x y : Mem} {k k' d d' : Nat} (h : DR (x k) d (y k') d') : DR (opnM x k d k) d (opnM y k' d' k') d' := by
  have e2 : x k (32 + 22 * d) = y k' (32 + 22 * d') := h.1 2 (by omega)
  unfold opnM
  rw [up_ub, up_ub, up_ub, up_ub, up_ub, up_ub]
  have h1 := h.up_f (f := 0) (a := 1) (b := 1) (by omega) rfl
  have h2 := h1.up_f (f := 2) (by omega) (show x k (32 + 22 * d) + 1 = y k' (32 + 22 * d') + 1 by rw [e2])
  exact h2.up_f (f := 1) (a := 0) (b := 0) (by omega) rfl
theorem hr_dr {x y : Mem} {k k' k2 k2' d d' : Nat} {num : Int32} {mm : Nat} (h : DR (x k) d (y k') d') (h0 : x k2 0 = y k2' 0) (h2 : x k2 2 = y k2' 2) :
    hrR x k d k2 num mm = hrR y k' d' k2' num mm ∧ DR (hrM x k d k2 num mm k) d (hrM y k' d' k2' num mm k') d' := by
  have e1 : x k (31 + 22 * d) = y k' (31 + 22 * d') := h.1 1 (by omega)
  have e3 : x k (33 + 22 * d) = y k' (33 + 22 * d') := h.1 3 (by omega)
  have e4 : x k (34 + 22 * d) = y k' (34 + 22 * d') := h.1 4 (by omega)
  have e5 : x k (35 + 22 * d) = y k' (35 + 22 * d') := h.1 5 (by omega)
  have eL : lockS (x k2 2) (x k (31 + 22 * d)) = lockS (y k2' 2) (y k' (31 + 22 * d')) := by rw [e1, h2]
  by_cases hL : lockS (y k2' 2) (y k' (31 + 22 * d')) = 0
  · rcases mean_or y k' d' mm num with hM | ⟨s, t, hs, h1, ht, hM, hn⟩
    · have a1 := hr_2 (eL.trans hL) ((mean_dr h).trans hM)
      have a2 := hr_2 hL hM
      rw [a1.1, a2.1, a1.2, a2.2]
      refine ⟨rfl, ?_⟩
      rw [up_ub, up_ub, up_ub, up_ub]
      have q1 := h.up_f (f := 1) (by omega) (show x k (31 + 22 * d) + 1 = y k' (31 + 22 * d') + 1 by rw [e1])
      refine q1.up_f (f := 4) (by omega) ?_
      rw [e4]
    · by_cases hT : takS y k' d' s (nI t) (y k2' 0)
      · have a1 := hr_0 (eL.trans hL) ((mean_dr h).trans hM) hs ((tk_dr h hs hn h0).mpr hT)
        have a2 := hr_0 hL hM hs hT
        rw [a1.1, a2.1, a1.2, a2.2]
        exact ⟨rfl, opn_dr (tak1_dr h hs hn)⟩
      · have a1 := hr_1 (eL.trans hL) ((mean_dr h).trans hM) hs (fun q => hT ((tk_dr h hs hn h0).mp q))
        have a2 := hr_1 hL hM hs hT
        rw [a1.1, a2.1, a1.2, a2.2]
        refine ⟨rfl, ?_⟩
        rw [up_ub, up_ub]
        exact (tak0_dr h hs hn).up_f (f := 3) (by omega) (show x k (33 + 22 * d) + 1 = y k' (33 + 22 * d') + 1 by rw [e3])
  · have a1 := hr_3 (num := num) (mm := mm) (k := k) (d := d) (x := x) (k2 := k2) (fun q => hL (eL.symm.trans q))
    have a2 := hr_3 (num := num) (mm := mm) hL
    rw [a1.1, a2.1, a1.2, a2.2]
    refine ⟨rfl, ?_⟩
    rw [up_ub, up_ub]
    exact h.up_f (f := 5) (by omega) (show x k (35 + 22 * d) + 1 = y k' (35 + 22 * d') + 1 by rw [e5])
theorem hrM_o {x : Mem} {k d k2 n mm : Nat} {num : Int32} (hn : n < 30 + 22 * d ∨ 52 + 22 * d ≤ n) : hrM x k d k2 num mm k n = x k n := by
  by_cases hL : lockS (x k2 2) (x k (31 + 22 * d)) = 0
  · rcases mean_or x k d mm num with hM | ⟨s, t, hs, h1, ht, hM, hne⟩
    · rw [(hr_2 hL hM).2, up_n _ _ (by omega), up_n _ _ (by omega)]
    · by_cases hT : takS x k d s (nI t) (x k2 0)
      · rw [(hr_0 hL hM hs hT).2]
        unfold opnM tak1
        rw [up_n _ _ (by omega), up_n _ _ (by omega), up_n _ _ (by omega), up_n _ _ (by omega), up_n _ _ (by omega)]
      · rw [(hr_1 hL hM hs hT).2]
        unfold tak0
        rw [up_n _ _ (by omega), up_n _ _ (by omega)]
  · rw [(hr_3 hL).2, up_n _ _ (by omega)]
/-- alike but for the place q -/
def Rq (q : Nat) (u v : Nat → Int32) : Prop := (∀ n, n < 30 → n ≠ q → u n = v n) ∧ ∀ d, d < 3 → DR u d v d
abbrev Rl (u v : Nat → Int32) : Prop := Rq 30 u v
theorem Rl.lo {u v : Nat → Int32} (h : Rl u v) {n : Nat} (hn : n < 30) : u n = v n := h.1 n hn (by omega)
theorem Rl.q {u v : Nat → Int32} (h : Rl u v) (q : Nat) : Rq q u v := ⟨fun _ hn _ => h.lo hn, h.2⟩
theorem Rq.loc {u v u' v' : Nat → Int32} {q q' : Nat} (h : Rq q u v) (hl : ∀ n, n < 30 → n ≠ q' → u' n = v' n) (hu : ∀ n, 30 ≤ n → n < 96 → u' n = u n) (hv : ∀ n, 30 ≤ n → n < 96 → v' n = v n) : Rq q' u' v' :=
  ⟨hl, fun d hd => (h.2 d hd).fr (fun n h1 h2 => hu n (by omega) (by omega)) (fun n h1 h2 => hv n (by omega) (by omega))⟩
theorem hr_rl {x y : Mem} {k k' d q : Nat} {num : Int32} {mm : Nat} (h : Rq q (x k) (y k')) (h0 : q ≠ 0) (h2 : q ≠ 2) (hd : d < 3) :
    hrR x k d k num mm = hrR y k' d k' num mm ∧ Rq q (hrM x k d k num mm k) (hrM y k' d k' num mm k') := by
  have a := hr_dr (num := num) (mm := mm) (h.2 d hd) (h.1 0 (by omega) (Ne.symm h0)) (h.1 2 (by omega) (Ne.symm h2))
  refine ⟨a.1, fun n hn hq => ?_, fun d' hd' => ?_⟩
  · rw [hrM_lo hn, hrM_lo hn]
    exact h.1 n hn hq
  · by_cases hdd : d' = d
    · rw [hdd]
      exact a.2
    · exact (h.2 d' hd').fr (fun n _ _ => hrM_o (by omega)) (fun n _ _ => hrM_o (by omega))
theorem snd_rl {x y : Mem} {k k' q : Nat} {msk num : Int32} {mm : Nat} (h : Rq q (x k) (y k')) (h0 : q ≠ 0) (h2 : q ≠ 2) : ∀ d, d ≤ 3 →
    (sendS x k msk num mm d).1 = (sendS y k' msk num mm d).1 ∧ Rq q ((sendS x k msk num mm d).2 k) ((sendS y k' msk num mm d).2 k')
  | 0, _ => ⟨rfl, h⟩
  | d + 1, hd => by
    have ih := snd_rl h h0 h2 (msk := msk) (num := num) (mm := mm) d (by omega)
    by_cases hm : (msk >>> (nI d &&& 31)) &&& 1 = 1
    · rw [sendS_y hm, sendS_y hm]
      have a := hr_rl (num := num) (mm := mm) ih.2 h0 h2 (d := d) (by omega)
      refine ⟨?_, a.2⟩
      show (if hrR (sendS x k msk num mm d).2 k d k num mm = 0 then _ else _) = if hrR (sendS y k' msk num mm d).2 k' d k' num mm = 0 then _ else _
      rw [a.1, ih.1]
    · rw [sendS_n hm, sendS_n hm]
      exact ih
theorem sF_rl {x y : Mem} {k k' j : Nat} (h : Rl (x k) (y k')) (hj : j < 4) : Rl (sndF x k j k) (sndF y k' j k') := by
  have e1 := h.lo (n := 15 + 4 * j) (by omega)
  have e2 := h.lo (n := 16 + 4 * j) (by omega)
  have e3 := h.lo (n := 17 + 4 * j) (by omega)
  unfold sndF
  rw [up_ub, up_ub, up_ub, up_ub, up_ub, up_ub, e1, e2, e3]
  refine Rq.loc h (fun n hn _ => ?_) (fun n h1 h2 => ?_) (fun n h1 h2 => ?_)
  · unfold ub
    rw [h.lo hn]
  · rw [ub_n (by omega), ub_n (by omega), ub_n (by omega)]
  · rw [ub_n (by omega), ub_n (by omega), ub_n (by omega)]
theorem rec_rl {x y : Mem} {k k' : Nat} {num : Int32} (h : Rl (x k) (y k')) : Rl (recF x k num k) (recF y k' num k') := by
  have e1 := h.lo (n := 5) (by omega)
  unfold recF
  rw [up_ub, up_ub, up_ub, up_ub, e1]
  refine Rq.loc h (fun n hn _ => ?_) (fun n h1 h2 => ?_) (fun n h1 h2 => ?_)
  · unfold ub
    have hs : shA x k k n = shA y k' k' n := by
      unfold shA
      by_cases hc : 7 ≤ n ∧ n < 14
      · rw [if_pos ⟨rfl, hc⟩, if_pos ⟨rfl, hc⟩]
        exact h.lo (by omega)
      · rw [if_neg (fun q => hc q.2), if_neg (fun q => hc q.2)]
        exact h.lo hn
    rw [hs]
  · rw [ub_n (by omega), ub_n (by omega)]
    unfold shA
    rw [if_neg (by omega)]
  · rw [ub_n (by omega), ub_n (by omega)]
    unfold shA
    rw [if_neg (by omega)]
theorem nxt_rl {x y : Mem} {k k' j : Nat} (h : Rl (x k) (y k')) (hj : j < 4) : nxtN x k j = nxtN y k' j := by
  unfold nxtN
  rw [h.lo (n := 14 + 4 * j) (by omega), h.lo (n := 15 + 4 * j) (by omega)]
theorem prs_rl {x y : Mem} {k k' j mm : Nat} {msk : Int32} (h : Rl (x k) (y k')) (hj : j < 4) :
    (prsS x k j msk mm).1 = (prsS y k' j msk mm).1 ∧ Rl ((prsS x k j msk mm).2 k) ((prsS y k' j msk mm).2 k') := by
  unfold prsS
  rw [nxt_rl h hj]
  exact snd_rl (rec_rl (sF_rl h hj)) (by omega) (by omega) 3 (by omega)
theorem num_n {x : Mem} {k ii nr : Nat} (hi : ii < nr) (h8 : nr ≤ 8) (hnr : x k 5 = nI nr) : numA x k (nI ii) = x k (6 + ii) := by
  unfold numA
  rw [hnr, if_neg (show ¬ nI ii < 0 from fun q => absurd ((nI_ltI (a := ii) (b := 0) (by omega) (by omega)).mp q) (by omega)), if_neg (fun q => absurd ((nI_leI (by omega) (by omega)).mp q) (by omega)), if_neg (show ¬ 8 ≤ nI ii from fun q => absurd ((nI_leI (a := 8) (b := ii) (by omega) (by omega)).mp q) (by omega)), nI_clamp (by omega)]
theorem num_o {x : Mem} {k ii nr : Nat} (hi : ¬ ii < nr) (h8 : nr ≤ 8) (hnr : x k 5 = nI nr) (h31 : ii < 2 ^ 31) : numA x k (nI ii) = -1 := by
  unfold numA
  rw [hnr, if_neg (show ¬ nI ii < 0 from fun q => absurd ((nI_ltI (a := ii) (b := 0) (by omega) (by omega)).mp q) (by omega)), if_pos ((nI_leI (by omega) (by omega)).mpr (by omega))]
theorem ag_rl {x y : Mem} {ii nr mm : Nat} {msk : Int32} (h : Rl (x 0) (y 10)) (hi : ii < nr) (h8 : nr ≤ 8) (hnr : x 0 5 = nI nr) :
    (agnS x ii msk mm).1 = (agM y ii msk mm).1 ∧ Rl ((agnS x ii msk mm).2 0) ((agM y ii msk mm).2 10) := by
  have h3 : Rq 3 (up x 0 3 (x 0 3 + 1) 0) (y 10) := by
    rw [up_ub]
    exact ⟨fun n hn hq => by rw [ub_n hq]; exact h.lo hn, fun d hd => (h.2 d hd).fr (fun n _ _ => ub_n (by omega)) (fun n _ _ => rfl)⟩
  have en : numA (up x 0 3 (x 0 3 + 1)) 0 (nI ii) = y 10 (6 + ii) := by
    rw [num_n hi h8 (by rw [up_n _ _ (by omega)]; exact hnr), up_n _ _ (by omega)]
    exact h.lo (by omega)
  unfold agnS agM
  rw [en]
  have a := snd_rl (msk := msk) (num := y 10 (6 + ii)) (mm := mm) h3 (by omega) (by omega) 3 (by omega)
  refine ⟨a.1, ?_⟩
  have l3 : (sendS (up x 0 3 (x 0 3 + 1)) 0 msk (y 10 (6 + ii)) mm 3).2 0 3 = x 0 3 + 1 := by rw [sendS_lo (by omega), up_s]
  have m3 : (sendS y 10 msk (y 10 (6 + ii)) mm 3).2 10 3 = y 10 3 := sendS_lo (by omega) 3
  have a4 := a.2.1 4 (by omega) (by omega)
  show Rl (up _ 0 4 _ 0) (up (up _ 10 3 _) 10 4 _ 10)
  rw [up_ub, up_ub, up_ub, a.1, a4, m3]
  refine Rq.loc a.2 (fun n hn _ => ?_) (fun n h1 h2 => ?_) (fun n h1 h2 => ?_)
  · by_cases h4 : n = 4
    · rw [h4, ub_s, ub_s]
    · rw [ub_n h4, ub_n h4]
      by_cases hn3 : n = 3
      · rw [hn3, ub_s, l3, h.lo (n := 3) (by omega)]
      · rw [ub_n hn3]
        exact a.2.1 n hn hn3
  · exact ub_n (by omega)
  · rw [ub_n (by omega), ub_n (by omega)]
theorem upl_rl {x y : Mem} {k k' n : Nat} {a : Int32} (h : Rl (x k) (y k')) (hn : n < 30) : Rl (up x k n a k) (up y k' n a k') := by
  rw [up_ub, up_ub]
  refine Rq.loc h (fun m hm _ => ?_) (fun m h1 h2 => ub_n (by omega)) (fun m h1 h2 => ub_n (by omega))
  unfold ub
  rw [h.lo hm]
theorem upf_rl {x y : Mem} {k k' d f : Nat} {a : Int32} (h : Rl (x k) (y k')) (hd : d < 3) (hf : f < 6) : Rl (up x k (30 + f + 22 * d) a k) (up y k' (30 + f + 22 * d) a k') := by
  rw [up_ub, up_ub]
  refine ⟨fun n hn _ => by rw [ub_n (by omega), ub_n (by omega)]; exact h.lo hn, fun d' hd' => ?_⟩
  by_cases hdd : d' = d
  · rw [hdd]
    exact (h.2 d hd).up_f hf rfl
  · exact (h.2 d' hd').fr (fun n _ _ => ub_n (by omega)) (fun n _ _ => ub_n (by omega))
theorem Rl.sl {u v u' v' : Nat → Int32} {d s : Nat} (h : Rl u v) (hd : d < 3) (hs : s < 4) (hu : ∀ n, (n < 36 + 22 * d + 4 * s ∨ 40 + 22 * d + 4 * s ≤ n) → u' n = u n) (hv : ∀ n, (n < 36 + 22 * d + 4 * s ∨ 40 + 22 * d + 4 * s ≤ n) → v' n = v n)
    (hL : u' (36 + 22 * d + 4 * s) = v' (36 + 22 * d + 4 * s)) (hi : ∀ i, 0 < i → i < 4 → u' (36 + i + 22 * d + 4 * s) = if v' (36 + 22 * d + 4 * s) = 0 then -1 else v' (36 + i + 22 * d + 4 * s)) : Rl u' v' := by
  refine ⟨fun n hn _ => by rw [hu _ (by omega), hv _ (by omega)]; exact h.lo hn, fun d' hd' => ⟨fun f hf => ?_, fun s' hs' => ?_⟩⟩
  · have ho : d' < d ∨ d' = d ∨ d < d' := by omega
    have hn : 30 + f + 22 * d' < 36 + 22 * d + 4 * s ∨ 40 + 22 * d + 4 * s ≤ 30 + f + 22 * d' := by omega
    rw [hu _ hn, hv _ hn]
    exact (h.2 d' hd').1 f hf
  · by_cases hq : d' = d ∧ s' = s
    · rw [hq.1, hq.2]
      exact ⟨hL, hi⟩
    · have a := (h.2 d' hd').2 s' hs'
      have hqo : d' < d ∨ d < d' ∨ (d' = d ∧ (s' < s ∨ s < s')) := by omega
      refine ⟨?_, fun i h0 h4 => ?_⟩
      · rw [hu _ (by omega), hv _ (by omega)]
        exact a.1
      · rw [hu _ (by omega), hv _ (by omega), hv _ (by omega)]
        exact a.2 i h0 h4
theorem ln_rl {x y : Mem} {d s j : Nat} (h : Rl (x 0) (y 10)) (hd : d < 3) (hs : s < 4) (hj : j < 4) : Rl (lrnS x 0 d s 0 j 0) (lnM y d s j 10) := by
  have e1 := h.lo (n := 14 + 4 * j) (by omega)
  have e2 := h.lo (n := 15 + 4 * j) (by omega)
  unfold lrnS lnM
  rw [up_ub, up_ub, up_ub, up_ub, up_ub, up_ub, up_ub, up_ub, e1, e2]
  refine h.sl hd hs (fun n hn => ?_) (fun n hn => ?_) ?_ (fun i h0 hi => ?_)
  · rw [ub_n (by omega), ub_n (by omega), ub_n (by omega), ub_n (by omega)]
  · rw [ub_n (by omega), ub_n (by omega), ub_n (by omega), ub_n (by omega)]
  · rw [ub_n (by omega), ub_n (by omega), ub_n (by omega), ub_s, ub_n (by omega), ub_n (by omega), ub_n (by omega), ub_s]
  · have eL : ub (ub (ub (ub (y 10) (36 + 22 * d + 4 * s) 1) (37 + 22 * d + 4 * s) (y 10 (14 + 4 * j))) (38 + 22 * d + 4 * s) (y 10 (15 + 4 * j))) (39 + 22 * d + 4 * s) (-1) (36 + 22 * d + 4 * s) = 1 := by
      rw [ub_n (by omega), ub_n (by omega), ub_n (by omega), ub_s]
    rw [eL, if_neg (by decide)]
    rcases (show i = 1 ∨ i = 2 ∨ i = 3 by omega) with e | e | e
    · subst e
      rw [ub_n (by omega), ub_n (by omega), ub_n (n := 36 + 1 + 22 * d + 4 * s) (q := 39 + 22 * d + 4 * s) (by omega), ub_n (n := 36 + 1 + 22 * d + 4 * s) (q := 38 + 22 * d + 4 * s) (by omega)]
      exact (ub_s (q := 36 + 1 + 22 * d + 4 * s)).trans (ub_s (q := 36 + 1 + 22 * d + 4 * s)).symm
    · subst e
      rw [ub_n (by omega), ub_n (n := 36 + 2 + 22 * d + 4 * s) (q := 39 + 22 * d + 4 * s) (by omega)]
      exact (ub_s (q := 36 + 2 + 22 * d + 4 * s)).trans (ub_s (q := 36 + 2 + 22 * d + 4 * s)).symm
    · subst e
      exact (ub_s (q := 36 + 3 + 22 * d + 4 * s)).trans (ub_s (q := 36 + 3 + 22 * d + 4 * s)).symm
theorem emp_rl {x y : Mem} {d s : Nat} (h : Rl (x 0) (y 10)) (hd : d < 3) (hs : s < 4) : Rl (empS x 0 d s 0) (up y 10 (36 + 22 * d + 4 * s) 0 10) := by
  unfold empS
  rw [up_ub, up_ub, up_ub, up_ub, up_ub]
  refine h.sl hd hs (fun n hn => ?_) (fun n hn => ?_) ?_ (fun i h0 hi => ?_)
  · rw [ub_n (by omega), ub_n (by omega), ub_n (by omega), ub_n (by omega)]
  · rw [ub_n (by omega)]
  · rw [ub_n (by omega), ub_n (by omega), ub_n (by omega), ub_s, ub_s]
  · rw [ub_s, if_pos rfl]
    rcases (show i = 1 ∨ i = 2 ∨ i = 3 by omega) with e | e | e
    · subst e
      rw [ub_n (by omega), ub_n (by omega)]
      exact ub_s (q := 36 + 1 + 22 * d + 4 * s)
    · subst e
      rw [ub_n (by omega)]
      exact ub_s (q := 36 + 2 + 22 * d + 4 * s)
    · subst e
      exact ub_s (q := 36 + 3 + 22 * d + 4 * s)
