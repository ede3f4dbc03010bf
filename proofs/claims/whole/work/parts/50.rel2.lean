/-! ===== the relation: looks, counts, what would be, the digest ===== -/
theorem lkF_rl {x y : Mem} {j w : Nat} (h : Rl (x 0) (y 10)) (hj : j < 4) (hw : w < 5) : lookFob x 0 j (nI w) = ofF y j w := by
  rcases (show w = 0 ∨ w = 1 ∨ w = 2 ∨ w = 3 ∨ w = 4 by omega) with e | e | e | e | e <;> subst e
  · exact h.lo (n := 14 + 4 * j) (by omega)
  · exact (h.lo (n := 15 + 4 * j) (by omega)).trans (congrArg (y 10) (by omega))
  · exact (h.lo (n := 16 + 4 * j) (by omega)).trans (congrArg (y 10) (by omega))
  · exact nxt_rl h hj
  · exact h.lo (n := 17 + 4 * j) (by omega)
theorem lkS_rl {x y : Mem} {d s w : Nat} (h : Rl (x 0) (y 10)) (hd : d < 3) (hs : s < 4) (hw : w < 4) (hR : RS (y 10)) : lookSlot x 0 d s (nI w) = ofS y d s w := by
  have a := (h.2 d hd).2 s hs
  have hz : y 10 (36 + 22 * d + 4 * s) = 0 ∨ y 10 (36 + 22 * d + 4 * s) = 1 := (hR d hd s hs).imp id (fun q => q.1)
  have e1 : x 0 (37 + 22 * d + 4 * s) = _ := a.2 1 (by omega) (by omega)
  have e2 : x 0 (38 + 22 * d + 4 * s) = _ := a.2 2 (by omega) (by omega)
  have e3 : x 0 (39 + 22 * d + 4 * s) = _ := a.2 3 (by omega) (by omega)
  have e0 := a.1
  rcases hz with hz | hz
  · rw [if_pos hz] at e1 e2 e3
    rw [hz] at e0
    have eo : ofS y d s w = if w = 0 then 0 else -1 := by
      unfold ofS
      rw [hz, if_neg (by decide)]
    rw [eo]
    rcases (show w = 0 ∨ w = 1 ∨ w = 2 ∨ w = 3 by omega) with e | e | e | e <;> subst e
    · exact if_pos e0
    · exact e1
    · exact e2
    · exact e3
  · rw [if_neg (by rw [hz]; decide)] at e1 e2 e3
    have eo : ofS y d s w = y 10 (36 + 22 * d + 4 * s + w) := by
      unfold ofS
      rw [hz, if_pos rfl]
    rw [eo]
    rcases (show w = 0 ∨ w = 1 ∨ w = 2 ∨ w = 3 by omega) with e | e | e | e <;> subst e
    · show (if x 0 (36 + 22 * d + 4 * s) = 0 then (0 : Int32) else 1) = y 10 (36 + 22 * d + 4 * s)
      rw [e0, hz]
      rfl
    · exact e1.trans (congrArg (y 10) (by omega))
    · exact e2.trans (congrArg (y 10) (by omega))
    · exact e3.trans (congrArg (y 10) (by omega))
theorem lk0_rl {x y : Mem} {d s : Nat} (h : Rl (x 0) (y 10)) (hd : d < 3) (hs : s < 4) (hR : RS (y 10)) : lookSlot x 0 d s 0 = y 10 (36 + 22 * d + 4 * s) := by
  refine (lkS_rl h hd hs (w := 0) (by omega) hR).trans ?_
  rcases hR d hd s hs with hz | hz
  · unfold ofS
    rw [hz]
    rfl
  · unfold ofS
    rw [if_pos hz.1]
    rfl
theorem lrn_rl {x y : Mem} {d : Nat} (h : Rl (x 0) (y 10)) (hd : d < 3) (hR : RS (y 10)) : lrnD x 0 d = lrM y d := by
  unfold lrnD lrM
  rw [lk0_rl h hd (s := 0) (by omega) hR, lk0_rl h hd (s := 1) (by omega) hR, lk0_rl h hd (s := 2) (by omega) hR, lk0_rl h hd (s := 3) (by omega) hR]
  rw [show 36 + 22 * d + 4 * 0 = 36 + 22 * d by omega, show 36 + 22 * d + 4 * 1 = 40 + 22 * d by omega, show 36 + 22 * d + 4 * 2 = 44 + 22 * d by omega, show 36 + 22 * d + 4 * 3 = 48 + 22 * d by omega]
def DF (v : Nat → Int32) : Prop := ∀ d, d < 3 → isFlag (v (30 + 22 * d))
theorem b2_f {v : Int32} (h : isFlag v) : b2 v = v := by
  rcases h with h | h <;> rw [h] <;> rfl
theorem lkD_rl {x y : Mem} {d w : Nat} (h : Rl (x 0) (y 10)) (hd : d < 3) (hw : w < 8) (hR : RS (y 10)) (hF : DF (y 10)) : lookDoor x 0 d (x 0 2) (nI w) = ofD y d w := by
  have D := (h.2 d hd).1
  have e0 : x 0 (30 + 22 * d) = y 10 (30 + 22 * d) := D 0 (by omega)
  have e1 : x 0 (31 + 22 * d) = y 10 (31 + 22 * d) := D 1 (by omega)
  have e2 := h.lo (n := 2) (by omega)
  rcases (show w = 0 ∨ w = 1 ∨ w = 2 ∨ w = 3 ∨ w = 4 ∨ w = 5 ∨ w = 6 ∨ w = 7 by omega) with e | e | e | e | e | e | e | e <;> subst e
  · show (if x 0 (30 + 22 * d) = 0 then 0 else 1) = y 10 (30 + 22 * d + 0)
    rw [e0]
    exact b2_f (hF d hd)
  · exact e1.trans (congrArg (y 10) (by omega))
  · show (if lockS (x 0 2) (x 0 (31 + 22 * d)) = 0 then (0 : Int32) else 1) = if lockS (y 10 2) (y 10 (31 + 22 * d)) = 0 then 0 else 1
    rw [e1, e2]
  · exact lrn_rl h hd hR
  · exact (D 2 (by omega)).trans (congrArg (y 10) (by omega))
  · exact (D 3 (by omega)).trans (congrArg (y 10) (by omega))
  · exact (D 4 (by omega)).trans (congrArg (y 10) (by omega))
  · exact (D 5 (by omega)).trans (congrArg (y 10) (by omega))
theorem zadd (a : Int32) : 0 + a = a := Int32.zero_add a
theorem cnt_rl {x y : Mem} {w : Nat} (h : Rl (x 0) (y 10)) (hw : w < 8) (hR : RS (y 10)) (hF : DF (y 10)) (hk : x 8 1 = y 15 0) : cntS x (nI w) = cntM y w := by
  rcases (show w = 0 ∨ w = 1 ∨ w = 2 ∨ w = 3 ∨ w = 4 ∨ w = 5 ∨ w = 6 ∨ w = 7 by omega) with e | e | e | e | e | e | e | e <;> subst e
  · show sum4 (x 0 17) (x 0 21) (x 0 25) (x 0 29) = y 10 17 + y 10 21 + y 10 25 + y 10 29
    unfold sum4
    rw [zadd, h.lo (n := 17) (by omega), h.lo (n := 21) (by omega), h.lo (n := 25) (by omega), h.lo (n := 29) (by omega)]
  · exact h.lo (by omega)
  · show sum3 (x 0 32) (x 0 54) (x 0 76) = sum3 (y 10 32) (y 10 54) (y 10 76)
    rw [show x 0 32 = y 10 32 from (h.2 0 (by omega)).1 2 (by omega), show x 0 54 = y 10 54 from (h.2 1 (by omega)).1 2 (by omega), show x 0 76 = y 10 76 from (h.2 2 (by omega)).1 2 (by omega)]
  · exact h.lo (by omega)
  · show sum3 (b2 (x 0 30)) (b2 (x 0 52)) (b2 (x 0 74)) = sum3 (y 10 30) (y 10 52) (y 10 74)
    rw [show x 0 30 = y 10 30 from (h.2 0 (by omega)).1 0 (by omega), show x 0 52 = y 10 52 from (h.2 1 (by omega)).1 0 (by omega), show x 0 74 = y 10 74 from (h.2 2 (by omega)).1 0 (by omega),
      show b2 (y 10 30) = y 10 30 from b2_f (hF 0 (by omega)), show b2 (y 10 52) = y 10 52 from b2_f (hF 1 (by omega)), show b2 (y 10 74) = y 10 74 from b2_f (hF 2 (by omega))]
  · show sum3 (b2 (lockS (x 0 2) (x 0 31))) (b2 (lockS (x 0 2) (x 0 53))) (b2 (lockS (x 0 2) (x 0 75))) = sum3 (b2 (lockS (y 10 2) (y 10 31))) (b2 (lockS (y 10 2) (y 10 53))) (b2 (lockS (y 10 2) (y 10 75)))
    rw [h.lo (n := 2) (by omega), show x 0 31 = y 10 31 from (h.2 0 (by omega)).1 1 (by omega), show x 0 53 = y 10 53 from (h.2 1 (by omega)).1 1 (by omega), show x 0 75 = y 10 75 from (h.2 2 (by omega)).1 1 (by omega)]
  · exact h.lo (by omega)
  · exact hk
theorem val_rl {x y : Mem} {w : Nat} (h : Rl (x 0) (y 10)) (hw : w < 3) : valS x 0 (nI w) = y 10 w := by
  rcases (show w = 0 ∨ w = 1 ∨ w = 2 by omega) with e | e | e <;> subst e <;> exact h.lo (by omega)
theorem fus_rl {x y : Mem} {d mm nr : Nat} (h : Rl (x 0) (y 10)) (hd : d < 3) (h8 : nr ≤ 8) (hnr : y 10 5 = nI nr) : ∀ f i, i + f = nr → fusS x d mm f i = fusK y 10 d mm f i
  | 0, _, _ => rfl
  | f + 1, i, e => by
    unfold fusS fusK
    rw [num_n (x := x) (k := 0) (by omega : i < nr) h8 ((h.lo (n := 5) (by omega)).trans hnr), h.lo (n := 6 + i) (by omega), (hr_rl h (by omega) (by omega) hd).1, fus_rl h hd h8 hnr f (i + 1) (by omega)]
theorem mun_rl {x y : Mem} {d mm : Nat} {sc : Int32} (h : Rl (x 0) (y 10)) (hd : d < 3) : ∀ (f : Nat) (c : Int32) (i : Nat) (r : Int32), (r = if i = 0 then -1 else nI (i - 1)) → munS x d sc mm f c i r = munK y 10 d sc mm f c i
  | 0, _, _, _, e => e
  | f + 1, c, i, r, e => by
    unfold munS munK
    rw [(hr_rl h (by omega) (by omega) hd).1, mun_rl h hd f (nx c) (i + 1) (nI i) (by rw [if_neg (by omega), Nat.add_sub_cancel]), e]
theorem DR.sh {u v u' v' : Nat → Int32} {d d' e : Nat} (h : DR u d v d') (hu : ∀ m, m < 22 → u' (30 + 22 * e + m) = u (30 + 22 * d + m)) (hv : ∀ n, 30 + 22 * d' ≤ n → n < 52 + 22 * d' → v' n = v n) : DR u' e v' d' := by
  have hu' : ∀ m n n', m < 22 → n = 30 + 22 * e + m → n' = 30 + 22 * d + m → u' n = u n' := fun m n n' hm e1 e2 => by rw [e1, e2]; exact hu m hm
  refine ⟨fun g hg => ?_, fun s hs => ⟨?_, fun i h0 hi => ?_⟩⟩
  · rw [hu' g _ (30 + g + 22 * d) (by omega) (by omega) (by omega), hv _ (by omega) (by omega)]
    exact h.1 g hg
  · rw [hu' (6 + 4 * s) _ (36 + 22 * d + 4 * s) (by omega) (by omega) (by omega), hv _ (by omega) (by omega)]
    exact (h.2 s hs).1
  · rw [hu' (6 + 4 * s + i) _ (36 + i + 22 * d + 4 * s) (by omega) (by omega) (by omega), hv _ (by omega) (by omega), hv _ (by omega) (by omega)]
    exact (h.2 s hs).2 i h0 hi
/-- a press that one door hears -/
theorem snd_1 {z : Mem} {k d mm : Nat} {num : Int32} (hd : d < 3) : (sendS z k (1 <<< (nI d &&& 31)) num mm 3).2 = hrM z k d k num mm ∧ ((sendS z k (1 <<< (nI d &&& 31)) num mm 3).1 = 0 ↔ ¬ hrR z k d k num mm = 0) := by
  rcases (show d = 0 ∨ d = 1 ∨ d = 2 by omega) with e | e | e <;> subst e
  · rw [sendS_n (d := 2) (by decide), sendS_n (d := 1) (by decide), sendS_y (d := 0) (by decide)]
    refine ⟨rfl, ?_⟩
    show (if hrR z k 0 k num mm = 0 then (0 : Int32) ||| (1 <<< (nI 0 &&& 31)) else 0) = 0 ↔ _
    by_cases h : hrR z k 0 k num mm = 0
    · rw [if_pos h]
      exact ⟨fun q => absurd q (by decide), fun q => absurd h q⟩
    · rw [if_neg h]
      exact ⟨fun _ => h, fun _ => rfl⟩
  · rw [sendS_n (d := 2) (by decide), sendS_y (d := 1) (by decide), sendS_n (d := 0) (by decide)]
    refine ⟨rfl, ?_⟩
    show (if hrR z k 1 k num mm = 0 then (0 : Int32) ||| (1 <<< (nI 1 &&& 31)) else 0) = 0 ↔ _
    by_cases h : hrR z k 1 k num mm = 0
    · rw [if_pos h]
      exact ⟨fun q => absurd q (by decide), fun q => absurd h q⟩
    · rw [if_neg h]
      exact ⟨fun _ => h, fun _ => rfl⟩
  · rw [sendS_y (d := 2) (by decide), sendS_n (d := 1) (by decide), sendS_n (d := 0) (by decide)]
    refine ⟨rfl, ?_⟩
    show (if hrR z k 2 k num mm = 0 then (0 : Int32) ||| (1 <<< (nI 2 &&& 31)) else 0) = 0 ↔ _
    by_cases h : hrR z k 2 k num mm = 0
    · rw [if_pos h]
      exact ⟨fun q => absurd q (by decide), fun q => absurd h q⟩
    · rw [if_neg h]
      exact ⟨fun _ => h, fun _ => rfl⟩
theorem rs_hi {x : Mem} {k j n : Nat} {num : Int32} (hj : j < 4) (hn : 30 ≤ n) : recF (sndF x k j) k num k n = x k n := by
  unfold recF sndF
  rw [up_n _ _ (by omega), up_n _ _ (by omega)]
  unfold shA
  rw [if_neg (by omega), up_n _ _ (by omega), up_n _ _ (by omega), up_n _ _ (by omega)]
theorem rs_lo {x : Mem} {k j n : Nat} {num : Int32} (h : n < 5) : recF (sndF x k j) k num k n = x k n := by
  unfold recF sndF
  rw [up_n _ _ (by omega), up_n _ _ (by omega)]
  unfold shA
  rw [if_neg (by omega), up_n _ _ (by omega), up_n _ _ (by omega), up_n _ _ (by omega)]
theorem rs_f {x : Mem} {k j i : Nat} {num : Int32} (hj : j < 4) (hi : i < 4) : recF (sndF x k j) k num k (14 + i + 4 * j) = if i = 1 then nx (x k (15 + 4 * j)) else if i = 2 then x k (16 + 4 * j) - 1 else if i = 3 then x k (17 + 4 * j) + 1 else x k (14 + 4 * j) := by
  unfold recF sndF
  rw [up_n _ _ (by omega), up_n _ _ (by omega)]
  unfold shA
  rw [if_neg (by omega)]
  rcases (show i = 0 ∨ i = 1 ∨ i = 2 ∨ i = 3 by omega) with e | e | e | e <;> subst e
  · rw [up_n _ _ (by omega), up_n _ _ (by omega), up_n _ _ (by omega)]
    rfl
  · exact up_s _ k (15 + 4 * j) _
  · rw [up_n _ _ (by omega), up_n _ _ (by omega)]
    exact up_s _ k (16 + 4 * j) _
  · rw [up_n _ _ (by omega)]
    exact up_s _ k (17 + 4 * j) _
theorem opK_lk {j d mm : Nat} (hj : j < 4) (hd : d < 3) : ∀ (f : Nat) (z : Mem) (i : Nat), ¬ lockS (z 11 2) (z 11 (31 + 22 * d)) = 0 → opK j (1 <<< (nI d &&& 31)) mm f z i = -1
  | 0, _, _, _ => rfl
  | f + 1, z, i, h => by
    by_cases hb : z 11 (16 + 4 * j) = 0
    · exact opK_0 hb
    · have h' : ¬ lockS (recF (sndF z 11 j) 11 (nxtN z 11 j) 11 2) (recF (sndF z 11 j) 11 (nxtN z 11 j) 11 (31 + 22 * d)) = 0 := by
        rw [rs_lo (by omega), rs_hi hj (by omega)]
        exact h
      have a := hr_3 (num := nxtN z 11 j) (mm := mm) h'
      have s1 := snd_1 (z := recF (sndF z 11 j) 11 (nxtN z 11 j)) (k := 11) (mm := mm) (num := nxtN z 11 j) hd
      have p0 : (prsS z 11 j (1 <<< (nI d &&& 31)) mm).1 = 0 := s1.2.mpr (by rw [a.1]; decide)
      have p1 : (prsS z 11 j (1 <<< (nI d &&& 31)) mm).2 = _ := s1.1.trans a.2
      rw [opK_n hb p0]
      refine opK_lk hj hd f _ _ ?_
      rw [p1, up_n _ _ (by omega), up_n _ _ (by omega)]
      exact h'
theorem pto_op {j d mm : Nat} {sc : Int32} (hj : j < 4) (hd : d < 3) : ∀ (f nb : Nat) (z z' : Mem) (c : Int32) (i : Nat), DR (z 7) 0 (z' 11) d → z 0 0 = z' 11 0 → z 0 2 = z' 11 2 → z' 11 (14 + 4 * j) = sc → z' 11 (15 + 4 * j) = c → z' 11 (16 + 4 * j) = nI nb → nb ≤ 999 →
    ptoS sc mm (if nb < f then nb else f) z c i = opK j (1 <<< (nI d &&& 31)) mm f z' i
  | 0, nb, z, z', c, i, _, _, _, _, _, _, _ => by rw [if_neg (by omega)]; rfl
  | f + 1, nb, z, z', c, i, hD, h0, h2, hs, hc, hb, h9 => by
    by_cases hn : nb = 0
    · rw [opK_0 (by rw [hb, hn]; rfl), hn, if_pos (by omega)]
      rfl
    · have hb0 : ¬ z' 11 (16 + 4 * j) = 0 := by
        rw [hb]
        exact fun q => hn ((nEq (nn := 0) (n := 0) rfl (by omega) (by omega)).mp q)
      have en : nxtN z' 11 j = nu sc (nx c) := by unfold nxtN; rw [hs, hc]
      have e1 : (if nb < f + 1 then nb else f + 1) = (if nb - 1 < f then nb - 1 else f) + 1 := by
        by_cases hq : nb < f + 1
        · rw [if_pos hq, if_pos (by omega)]
          omega
        · rw [if_neg hq, if_neg (by omega)]
      have hD' : DR (z 7) 0 (recF (sndF z' 11 j) 11 (nu sc (nx c)) 11) d := hD.fr (fun _ _ _ => rfl) (fun n h1 _ => rs_hi hj (by omega))
      have H := hr_dr (k2 := 0) (k2' := 11) (x := z) (y := recF (sndF z' 11 j) 11 (nu sc (nx c))) (num := nu sc (nx c)) (mm := mm) hD' (by rw [rs_lo (by omega)]; exact h0) (by rw [rs_lo (by omega)]; exact h2)
      have s1 := snd_1 (z := recF (sndF z' 11 j) 11 (nu sc (nx c))) (k := 11) (mm := mm) (num := nu sc (nx c)) hd
      have pe : prsS z' 11 j (1 <<< (nI d &&& 31)) mm = sendS (recF (sndF z' 11 j) 11 (nu sc (nx c))) 11 (1 <<< (nI d &&& 31)) (nu sc (nx c)) mm 3 := by unfold prsS; rw [en]
      rw [e1]
      by_cases hr0 : hrR z 7 0 0 (nu sc (nx c)) mm = 0
      · rw [pto_0 hr0, opK_y hb0 (by rw [pe]; exact fun q => s1.2.mp q (H.1.symm.trans hr0))]
      · have p0 : (prsS z' 11 j (1 <<< (nI d &&& 31)) mm).1 = 0 := by rw [pe]; exact s1.2.mpr (fun q => hr0 (H.1.trans q))
        rw [opK_n hb0 p0]
        have p1 : (prsS z' 11 j (1 <<< (nI d &&& 31)) mm).2 = hrM (recF (sndF z' 11 j) 11 (nu sc (nx c))) 11 d 11 (nu sc (nx c)) mm := by rw [pe]; exact s1.1
        by_cases hr3 : hrR z 7 0 0 (nu sc (nx c)) mm = 3
        · rw [pto_3 hr3]
          refine (opK_lk hj hd f _ _ ?_).symm
          rw [p1, hrM_lo (by omega)]
          have hL : ¬ lockS (recF (sndF z' 11 j) 11 (nu sc (nx c)) 11 2) (recF (sndF z' 11 j) 11 (nu sc (nx c)) 11 (31 + 22 * d)) = 0 := fun q => by
            have := H.1.symm.trans hr3
            unfold hrR at this
            rw [if_neg (fun w => w q)] at this
            split at this
            · exact absurd this (by decide)
            · split at this <;> exact absurd this (by decide)
          rw [(hr_3 hL).2, up_n _ _ (by omega)]
          exact hL
        · rw [pto_n hr0 hr3]
          refine pto_op hj hd f (nb - 1) _ _ _ _ ?_ ?_ ?_ ?_ ?_ ?_ (by omega)
          · rw [p1]
            exact H.2
          · rw [p1, hrM_lo (by omega), rs_lo (by omega), hrM_b (by omega)]
            exact h0
          · rw [p1, hrM_lo (by omega), rs_lo (by omega), hrM_b (by omega)]
            exact h2
          · rw [p1, hrM_lo (by omega)]
            exact (rs_f (i := 0) hj (by omega)).trans hs
          · rw [p1, hrM_lo (by omega)]
            exact (rs_f (i := 1) hj (by omega)).trans (congrArg nx hc)
          · rw [p1, hrM_lo (by omega)]
            refine (rs_f (i := 2) hj (by omega)).trans ?_
            show z' 11 (16 + 4 * j) - 1 = _
            rw [hb, ← dec_n (by omega), Int32.sub_eq_add_neg]
            rfl
theorem ptX_rl {x y : Mem} {j d mm nb : Nat} (h : Rl (x 0) (y 10)) (hj : j < 4) (hd : d < 3) (hb : x 0 (16 + 4 * j) = nI nb) (h9 : nb ≤ 999) : ptoX x j d mm nb = opX y j d mm := by
  have e14 := h.lo (n := 14 + 4 * j) (by omega)
  have e15 := h.lo (n := 15 + 4 * j) (by omega)
  have e16 := h.lo (n := 16 + 4 * j) (by omega)
  unfold ptoX opX
  refine pto_op hj hd 50 nb (triM x d) (cpS y 11 0 10 0 96) _ 0 ?_ ?_ ?_ ?_ ?_ ?_ h9
  · refine (h.2 d hd).sh (fun m hm => ?_) (fun n h1 h2 => cp11 n (by omega))
    unfold triM
    rw [cpS_in (by omega) (by omega)]
    exact congrArg (x 0) (by omega)
  · rw [cp11 0 (by omega)]
    exact (cpS_b (by omega)).trans (h.lo (by omega))
  · rw [cp11 2 (by omega)]
    exact (cpS_b (by omega)).trans (h.lo (by omega))
  · rw [cp11 _ (by omega)]
    exact e14.symm
  · rw [cp11 _ (by omega)]
    exact e15.symm
  · rw [cp11 _ (by omega), ← e16]
    exact hb
theorem muX_rl {x y : Mem} {j d mm : Nat} (h : Rl (x 0) (y 10)) (hj : j < 4) (hd : d < 3) : munX x j d mm = muX y j d mm := by
  unfold munX muX
  rw [h.lo (n := 14 + 4 * j) (by omega), h.lo (n := 15 + 4 * j) (by omega)]
  exact mun_rl h hd 100 _ 0 (-1) rfl
theorem dl_e (g : Nat → Int32) (h : Nat → Nat → Int32) (a : Int32) (o m : Nat → Int32) : ((List.range 8).map fun q => g q) ++ (((List.range 16).map fun q => h (q / 4) (q % 4)) ++ (a :: (List.range 4).flatMap fun q => [o q, m q])) =
    [g 0, g 1, g 2, g 3, g 4, g 5, g 6, g 7, h 0 0, h 0 1, h 0 2, h 0 3, h 1 0, h 1 1, h 1 2, h 1 3, h 2 0, h 2 1, h 2 2, h 2 3, h 3 0, h 3 1, h 3 2, h 3 3, a, o 0, m 0, o 1, m 1, o 2, m 2, o 3, m 3] := rfl
theorem dor_rl {x y : Mem} {d mm nr : Nat} {nb : Nat → Nat} (h : Rl (x 0) (y 10)) (hd : d < 3) (hR : RS (y 10)) (hF : DF (y 10)) (h8 : nr ≤ 8) (hnr : y 10 5 = nI nr) (hnb : ∀ j, j < 4 → x 0 (16 + 4 * j) = nI (nb j)) (h9 : ∀ j, j < 4 → nb j ≤ 999) : dorL x d mm nr nb = dorM y d mm nr := by
  unfold dorM
  rw [dl_e (fun q => ofD y d q) (fun a b => ofS y d a b) (fusK y 10 d mm nr 0) (fun q => opX y q d mm) (fun q => muX y q d mm)]
  unfold dorL
  rw [show lookDoor x 0 d (x 0 2) 0 = ofD y d 0 from lkD_rl (w := 0) h hd (by omega) hR hF, show lookDoor x 0 d (x 0 2) 1 = ofD y d 1 from lkD_rl (w := 1) h hd (by omega) hR hF, show lookDoor x 0 d (x 0 2) 2 = ofD y d 2 from lkD_rl (w := 2) h hd (by omega) hR hF, show lookDoor x 0 d (x 0 2) 3 = ofD y d 3 from lkD_rl (w := 3) h hd (by omega) hR hF,
    show lookDoor x 0 d (x 0 2) 4 = ofD y d 4 from lkD_rl (w := 4) h hd (by omega) hR hF, show lookDoor x 0 d (x 0 2) 5 = ofD y d 5 from lkD_rl (w := 5) h hd (by omega) hR hF, show lookDoor x 0 d (x 0 2) 6 = ofD y d 6 from lkD_rl (w := 6) h hd (by omega) hR hF, show lookDoor x 0 d (x 0 2) 7 = ofD y d 7 from lkD_rl (w := 7) h hd (by omega) hR hF,
    show lookSlot x 0 d 0 0 = ofS y d 0 0 from lkS_rl (s := 0) (w := 0) h hd (by omega) (by omega) hR, show lookSlot x 0 d 0 1 = ofS y d 0 1 from lkS_rl (s := 0) (w := 1) h hd (by omega) (by omega) hR, show lookSlot x 0 d 0 2 = ofS y d 0 2 from lkS_rl (s := 0) (w := 2) h hd (by omega) (by omega) hR, show lookSlot x 0 d 0 3 = ofS y d 0 3 from lkS_rl (s := 0) (w := 3) h hd (by omega) (by omega) hR,
    show lookSlot x 0 d 1 0 = ofS y d 1 0 from lkS_rl (s := 1) (w := 0) h hd (by omega) (by omega) hR, show lookSlot x 0 d 1 1 = ofS y d 1 1 from lkS_rl (s := 1) (w := 1) h hd (by omega) (by omega) hR, show lookSlot x 0 d 1 2 = ofS y d 1 2 from lkS_rl (s := 1) (w := 2) h hd (by omega) (by omega) hR, show lookSlot x 0 d 1 3 = ofS y d 1 3 from lkS_rl (s := 1) (w := 3) h hd (by omega) (by omega) hR,
    show lookSlot x 0 d 2 0 = ofS y d 2 0 from lkS_rl (s := 2) (w := 0) h hd (by omega) (by omega) hR, show lookSlot x 0 d 2 1 = ofS y d 2 1 from lkS_rl (s := 2) (w := 1) h hd (by omega) (by omega) hR, show lookSlot x 0 d 2 2 = ofS y d 2 2 from lkS_rl (s := 2) (w := 2) h hd (by omega) (by omega) hR, show lookSlot x 0 d 2 3 = ofS y d 2 3 from lkS_rl (s := 2) (w := 3) h hd (by omega) (by omega) hR,
    show lookSlot x 0 d 3 0 = ofS y d 3 0 from lkS_rl (s := 3) (w := 0) h hd (by omega) (by omega) hR, show lookSlot x 0 d 3 1 = ofS y d 3 1 from lkS_rl (s := 3) (w := 1) h hd (by omega) (by omega) hR, show lookSlot x 0 d 3 2 = ofS y d 3 2 from lkS_rl (s := 3) (w := 2) h hd (by omega) (by omega) hR, show lookSlot x 0 d 3 3 = ofS y d 3 3 from lkS_rl (s := 3) (w := 3) h hd (by omega) (by omega) hR,
    fus_rl h hd h8 hnr nr 0 (by omega), ptX_rl h (j := 0) (by omega) hd (hnb 0 (by omega)) (h9 0 (by omega)), ptX_rl h (j := 1) (by omega) hd (hnb 1 (by omega)) (h9 1 (by omega)), ptX_rl h (j := 2) (by omega) hd (hnb 2 (by omega)) (h9 2 (by omega)), ptX_rl h (j := 3) (by omega) hd (hnb 3 (by omega)) (h9 3 (by omega)),
    muX_rl h (j := 0) (by omega) hd, muX_rl h (j := 1) (by omega) hd, muX_rl h (j := 2) (by omega) hd, muX_rl h (j := 3) (by omega) hd]
theorem mp_cg {f g : Nat → Int32} {n : Nat} (h : ∀ i, i < n → f i = g i) : (List.range n).map f = (List.range n).map g := List.map_congr_left fun i hi => h i (List.mem_range.mp hi)
theorem fob_l (g : Nat → Nat → Int32) : ((List.range 4).flatMap fun j => (List.range 5).map fun w => g j w) = (List.range 20).map fun q => g (q / 5) (q % 5) := rfl
theorem flm3 (f : Nat → List Int32) : (List.range 3).flatMap f = f 0 ++ (f 1 ++ (f 2 ++ [])) := rfl
theorem dg_rl {x y : Mem} {mm nr oa ow tl : Nat} {nb : Nat → Nat} (h : Rl (x 0) (y 10)) (hR : RS (y 10)) (hF : DF (y 10)) (h8 : nr ≤ 8) (hnr : y 10 5 = nI nr) (hnb : ∀ j, j < 4 → x 0 (16 + 4 * j) = nI (nb j)) (h9 : ∀ j, j < 4 → nb j ≤ 999) (hk : x 8 1 = y 15 0)
    (hc : ∀ i, i < tl → codeS x (nI i) = y 13 i) : dgC x mm nr nb oa ow tl = dgM y mm nr oa ow tl := by
  have g1 : dg1 x = dm1 y := by
    unfold dg1 dm1
    rw [mp_cg fun i hi => cnt_rl h hi hR hF hk]
  have g2 : dg2 x = dm2 y := by
    unfold dg2 dm2
    rw [g1, mp_cg fun i hi => val_rl h hi]
  have g3 : dg3 x = dm3 y := by
    unfold dg3 dm3 fobL
    rw [g2, fob_l (fun j w => lookFob x 0 j (nI w)), mp_cg (f := fun q => lookFob x 0 (q / 5) (nI (q % 5))) (g := fun q => ofF y (q / 5) (q % 5)) fun i hi => lkF_rl h (by omega) (by omega)]
  have g4 : dg4 x mm nr nb = dm4 y mm nr := by
    unfold dg4 dm4
    rw [g3, flm3, flm3, dor_rl h (d := 0) (by omega) hR hF h8 hnr hnb h9, dor_rl h (d := 1) (by omega) hR hF h8 hnr hnb h9, dor_rl h (d := 2) (by omega) hR hF h8 hnr hnb h9]
  have g5 : dg5 x mm nr nb = dm5 y mm nr := by
    unfold dg5 dm5
    rw [g4, mp_cg (f := fun i => numA x 0 (nI i)) (g := fun q => y 10 (q + 6)) fun i hi => by rw [num_n hi h8 ((h.lo (n := 5) (by omega)).trans hnr), h.lo (n := 6 + i) (by omega), Nat.add_comm]]
  have g6 : dg6 x mm nr nb oa ow tl = dm6 y mm nr oa ow tl := by
    unfold dg6 dm6
    rw [g5, (hr_rl h (by omega) (by omega) (d := 0) (by omega)).1]
  unfold dgC dgM
  rw [g6, mp_cg hc]
