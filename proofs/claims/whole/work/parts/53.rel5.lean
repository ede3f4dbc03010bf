/-! ===== the text played: both sides ===== -/
theorem pl_skip {mm : Nat} : ∀ (k f : Nat) (z : Mem) (s i dn : Nat), (∀ n, i ≤ n → n < i + k → endS z (nI n) = 0) → plS mm (k + f) z s i dn = plS mm f z s (i + k) dn
  | 0, f, z, s, i, dn, _ => by rw [Nat.zero_add, Nat.add_zero]
  | k + 1, f, z, s, i, dn, h => by
    rw [show k + 1 + f = (k + f) + 1 by omega, pl_n (h i (by omega) (by omega)), pl_skip k f z s (i + 1) dn (fun n h1 h2 => h n (by omega) (by omega)), show i + 1 + k = i + (k + 1) by omega]
theorem pp_pd {a b z z' : Mem} {tl s e mm B : Nat} (hT : TXR a b tl) (hP : PartOk a tl s e) (h8 : z 8 2 = a 8 2) (h9 : z 9 = a 9) (hR : Rl (z 0) (z' 10)) (hG : GD (z' 10) mm B) :
    (ppS z s e mm).1 = (pdM a z' s e mm).1 ∧ Rl ((ppS z s e mm).2 0) ((pdM a z' s e mm).2 10) ∧ GD ((pdM a z' s e mm).2 10) mm (B + 3) ∧ ∀ k, k ≠ 0 → (ppS z s e mm).2 k = z k := by
  obtain ⟨c, q, hc, hd, hq⟩ := hP.k hT
  have hcode := code_b h8 h9
  have hdig := dig_b h8 h9
  have hc' : codeS z (nI s) = nI c := (hcode _).trans hc
  have hd' : digS z (nI (s + 1)) = nI q := (hdig _).trans hd
  have hm : mskS z s e = mskS a s e := mkS_b hcode _ _ _
  rcases hq with ⟨e1, hq⟩ | ⟨e1, hq⟩ | ⟨e1, hq⟩ <;> subst e1
  · obtain ⟨nb, b1, b2⟩ := hG.bt q hq
    have b3 : z 0 (16 + 4 * q) = nI nb := (hR.lo (n := 16 + 4 * q) (by omega)).trans b2
    by_cases hb : nb = 0
    · subst hb
      rw [pp_f0 hc' hd' hq (by rw [b3]; decide), pd_f0 hc hd (by omega) b2]
      exact ⟨rfl, hR, hG.le (by omega), fun _ _ => rfl⟩
    · have c1 : ¬ z 0 (16 + 4 * q) ≤ 0 := by
        rw [b3]
        exact fun w => hb (by have := (nI_leI (a := nb) (b := 0) (by omega) (by omega)).mp w; omega)
      have c2 : ¬ z' 10 (16 + 4 * q) = 0 := by
        rw [b2]
        exact fun w => hb ((nEq (nn := 0) (n := 0) rfl (by omega) (by omega)).mp w)
      rw [pp_f1 hc' hd' hq c1, pd_f1 hc hd (by omega) c2, hm]
      exact ⟨rfl, (prs_rl hR hq).2, prs_gd hG hq c2, fun k hk => funext fun n => prsS_b hk⟩
  · obtain ⟨-, -, -, -, nr, r8, hnr⟩ := hG.iv
    have hnr0 : z 0 5 = nI nr := (hR.lo (n := 5) (by omega)).trans hnr
    by_cases hb : q < nr
    · rw [pp_r1 hc' hd' hq hnr0 r8 hb, pd_r hc hd hq hnr r8, if_pos hb, hm]
      exact ⟨rfl, (ag_rl hR hb r8 hnr0).2, ag_gd hG, fun k hk => funext fun n => agnS_b hk⟩
    · rw [pp_r0 hc' hd' hq hnr0 r8 hb, pd_r hc hd hq hnr r8, if_neg hb]
      exact ⟨rfl, hR, hG.le (by omega), fun _ _ => rfl⟩
  · rw [pp_c hc' hd' hq, pd_c hc hd (by omega)]
    exact ⟨rfl, upf_rl (f := 0) hR hq (by omega), (sh_gd hG hq).le (by omega), fun k hk => funext fun n => up_b _ _ _ hk⟩
theorem pl_sim {a b w : Mem} {tl T mm : Nat} {st : Nat → Nat} (hT : TXR a b tl) (hO : TextOk a w tl T st) : ∀ (k t B : Nat) (z z' : Mem), t + k = T → z 8 2 = a 8 2 → z 9 = a 9 → Rl (z 0) (z' 10) → GD (z' 10) mm B →
    (plS mm (tl + 1 - st t) z (st t) (st t) t).1 = (plM mm a st k z' t).1 ∧ Rl ((plS mm (tl + 1 - st t) z (st t) (st t) t).2 0) ((plM mm a st k z' t).2 10) ∧ GD ((plM mm a st k z' t).2 10) mm (B + 3 * k) ∧ ∀ b, b ≠ 0 → (plS mm (tl + 1 - st t) z (st t) (st t) t).2 b = z b
  | 0, t, B, z, z', ht, h8, h9, hR, hG => by
    have e : st t = tl + 1 := by rw [show t = T by omega]; exact hO.2.1
    rw [e, Nat.sub_self]
    exact ⟨rfl, hR, hG, fun _ _ => rfl⟩
  | k + 1, t, B, z, z', ht, h8, h9, hR, hG => by
    obtain ⟨hP, h3, hle, h59, -⟩ := hO.2.2.2 t (by omega)
    have hz8 : z 8 2 = nI tl := h8.trans hT.2.1
    have h60 := hT.1
    have hcode := code_b h8 h9
    have hsk : ∀ n, st t ≤ n → n < st t + (st (t + 1) - 1 - st t) → endS z (nI n) = 0 := fun n n1 n2 => by
      unfold endS
      rw [hz8, if_neg (fun q => absurd ((nEq (nn := nI tl) (n := tl) rfl (by omega) (by omega)).mp q) (by omega)), hcode, if_neg (hP.2.2.2 n n1 (by omega))]
    have hen : ¬ endS z (nI (st (t + 1) - 1)) = 0 := by
      unfold endS
      by_cases q : t + 1 < T
      · rw [hcode, h59 q]
        split <;> decide
      · have e : st (t + 1) - 1 = tl := by rw [show t + 1 = T by omega, hO.2.1]; omega
        rw [e, hz8, if_pos rfl]
        decide
    have ef : tl + 1 - st t = (st (t + 1) - 1 - st t) + ((tl + 1 - st (t + 1)) + 1) := by omega
    have H := pp_pd hT hP h8 h9 hR hG
    rw [ef, pl_skip _ _ z _ _ _ hsk, show st t + (st (t + 1) - 1 - st t) = st (t + 1) - 1 by omega]
    by_cases hz : (pdM a z' (st t) (st (t + 1) - 1) mm).1 = 0
    · rw [pl_0 hen (H.1.trans hz), plM_0 hz]
      exact ⟨rfl, H.2.1, H.2.2.1.le (by omega), H.2.2.2⟩
    · rw [pl_y hen (fun q => hz (H.1.symm.trans q)), plM_y hz, show st (t + 1) - 1 + 1 = st (t + 1) by omega]
      have ih := pl_sim hT hO k (t + 1) (B + 3) (ppS z (st t) (st (t + 1) - 1) mm).2 (pdM a z' (st t) (st (t + 1) - 1) mm).2 (by omega) (by rw [H.2.2.2 8 (by omega)]; exact h8) (by rw [H.2.2.2 9 (by omega)]; exact h9) H.2.1 H.2.2.1
      exact ⟨ih.1, ih.2.1, ih.2.2.1.le (by omega), fun b hb => (ih.2.2.2 b hb).trans (H.2.2.2 b hb)⟩
theorem exp_59 (e : Int32) : expS e 59 = 0 ∨ expS e 59 = 8 := by
  unfold expS
  split
  · exact Or.inr rfl
  · split
    · exact Or.inr rfl
    · split
      · exact Or.inr rfl
      · split
        · exact Or.inr rfl
        · split
          · exact Or.inr rfl
          · split
            · exact Or.inr rfl
            · exact Or.inl rfl
theorem stA_s {x : Mem} {n : Nat} : stA x (n + 1) = expS (stA x n) (codeS x (nI n)) := by
  unfold stA
  rw [feS_snoc, Nat.zero_add]
theorem stA_8 {x : Mem} {n m : Nat} (h : stA x n = 8) (hm : n ≤ m) : stA x m = 8 := by
  unfold stA at h ⊢
  rw [show m = n + (m - n) by omega, feS_app, h, feS_8]
theorem comp_or {e : Int32} (h : compS e = 1) : ¬ e < 5 ∧ ¬ 7 < e := by
  unfold compS at h
  by_cases q : e < 5
  · rw [if_pos q] at h
    exact absurd h (by decide)
  · rw [if_neg q] at h
    by_cases q2 : 7 < e
    · rw [if_pos q2] at h
      exact absurd h (by decide)
    · exact ⟨q, q2⟩
theorem comp_b (e : Int32) : compS e = 0 ∨ compS e = 1 := by
  unfold compS
  split
  · exact Or.inl rfl
  · split
    · exact Or.inl rfl
    · exact Or.inr rfl
theorem comp_5 {e : Int32} (h : ∃ d : Nat, d ≤ 2 ∧ e = nI (5 + d)) : compS e = 1 := by
  obtain ⟨d, hd, h⟩ := h
  rw [h]
  rcases (show d = 0 ∨ d = 1 ∨ d = 2 by omega) with e | e | e <;> subst e <;> rfl
theorem pws {a b : Mem} {tl : Nat} (hT : TXR a b tl) (hc : compS (stA a tl) = 1) : PWs a tl := by
  have hne : ∀ n, n ≤ tl → stA a n ≠ 8 := fun n hn q => by
    rw [stA_8 q hn] at hc
    exact absurd hc (by decide)
  have h0 : stA a tl ≠ 0 := fun q => by
    rw [q] at hc
    exact absurd hc (by decide)
  intro s e hse he hs hn hen
  have hk := hT.k
  have h1 : ∀ n, n ≤ tl → s + 1 = n → stA a n = 3 ∨ stA a n = 1 ∨ stA a n = 2 := fun n hn e1 => by
    have := hne n hn
    subst e1
    rw [stA_s, hs] at this ⊢
    obtain ⟨c, c1, c2, c3⟩ := hk s (by omega)
    rw [c3, exp_0 c2] at this ⊢
    split
    · exact Or.inl rfl
    · split
      · exact Or.inr (Or.inl rfl)
      · split
        · exact Or.inr (Or.inr rfl)
        · rename_i q1 q2 q3
          rw [if_neg q1, if_neg q2, if_neg q3] at this
          exact absurd rfl this
  have hse2 : s + 2 ≤ e := by
    rcases (show e = s ∨ e = s + 1 ∨ s + 2 ≤ e by omega) with q | q | q
    · subst q
      rcases hen with w | w
      · subst w
        exact absurd hs h0
      · exfalso
        have hlt : e < tl := by
          rcases Nat.lt_or_ge e tl with l | l
          · exact l
          · rw [show tl = e by omega] at h0
            exact absurd hs h0
        exact hne (e + 1) (by omega) (by rw [stA_s, hs, w]; rfl)
    · subst q
      exfalso
      have h4 := h1 (s + 1) he rfl
      rcases Nat.lt_or_ge (s + 1) tl with l | l
      · have w := hen.resolve_left (by omega)
        refine hne (s + 1 + 1) (by omega) ?_
        rw [stA_s, w]
        rcases h4 with h | h | h <;> rw [h] <;> rfl
      · rw [show tl = s + 1 by omega] at hc
        rcases h4 with h | h | h <;> rw [h] at hc <;> exact absurd hc (by decide)
    · exact q
  refine ⟨⟨hse2, ?_⟩, fun hlt => ?_⟩
  · have h2 : feS a 2 0 s ≠ 8 := fun q => by
      refine hne (s + 2) (by omega) ?_
      rw [stA_run hs (by omega), show s + 2 - s = 2 by omega]
      exact q
    obtain ⟨c, q, k1, k2, k3⟩ := seg_k hk (p := s) (by omega) h2
    refine ⟨q, k2, ?_⟩
    rw [k1]
    rcases k3 with ⟨w, k⟩ | ⟨w, k⟩ | ⟨w, k⟩ <;> subst w
    · exact Or.inl ⟨rfl, k⟩
    · exact Or.inr (Or.inl ⟨rfl, k⟩)
    · exact Or.inr (Or.inr ⟨rfl, k⟩)
  · have w := hen.resolve_left (by omega)
    have h8 := hne (e + 1) (by omega)
    rw [stA_s, w] at h8 ⊢
    exact (exp_59 _).resolve_right h8
theorem text_no {a : Mem} {tl q : Nat} (h : TextNo a tl q) : compS (stA a tl) = 0 := by
  obtain ⟨h1, h2, h3, h4⟩ := h
  rcases Nat.lt_or_ge q tl with l | l
  · have e : stA a (q + 1) = 8 := by
      rw [stA_s]
      exact h3 l
    rw [stA_8 e (by omega)]
    rfl
  · obtain ⟨e, e4, e5⟩ := h4 (by omega)
    rw [show tl = q by omega, e5]
    rcases (show e = 0 ∨ e = 1 ∨ e = 2 ∨ e = 3 ∨ e = 4 by omega) with w | w | w | w | w <;> subst w <;> rfl
