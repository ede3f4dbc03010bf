theorem feS_8 {x : Mem} : ∀ (k i : Nat), feS x k 8 i = 8
  | 0, _ => rfl
  | k + 1, i => by
    show feS x k (expS 8 (codeS x (nI i))) (i + 1) = 8
    rw [show expS 8 (codeS x (nI i)) = 8 by unfold expS; simp]
    exact feS_8 k (i + 1)
theorem glS_run {x : Mem} : ∀ (k f : Nat) (e : Int32) (i : Nat), feS x k e i ≠ 8 → glS x (k + f) e i = glS x f (feS x k e i) (i + k)
  | 0, f, e, i, _ => by rw [Nat.zero_add]; rfl
  | k + 1, f, e, i, h => by
    have h' : feS x k (expS e (codeS x (nI i))) (i + 1) ≠ 8 := h
    rw [show k + 1 + f = (k + f) + 1 by omega]
    rw [glS_n (fun q => h' (by rw [q]; exact feS_8 k (i + 1))), glS_run k f _ _ h', show i + 1 + k = i + (k + 1) by omega]
    rfl
theorem gl_fault {x : Mem} {tl q : Nat} (h : stA x q ≠ 8) (hq : q < tl) (he : expS (stA x q) (codeS x (nI q)) = 8) : glS x tl 0 0 = q := by
  have h1 := glS_run q (tl - q) 0 0 h
  rw [show q + (tl - q) = tl by omega, Nat.zero_add] at h1
  rw [h1, show tl - q = (tl - q - 1) + 1 by omega]
  exact glS_y he
theorem gl_end {x : Mem} {tl : Nat} (h : stA x tl ≠ 8) : glS x tl 0 0 = tl := by
  have h1 := glS_run tl 0 0 0 h
  rw [Nat.add_zero, Nat.zero_add] at h1
  rw [h1]
  rfl
def PartOk (x0 : Mem) (tl p q : Nat) : Prop := p + 2 ≤ q ∧ q ≤ tl ∧ (∃ d, d ≤ 2 ∧ feS x0 (q - p) 0 p = nI (5 + d) ∧ (q < tl → ∃ c : Nat, 33 ≤ c ∧ c ≤ 126 ∧ codeS x0 (nI q) = nI c ∧ ¬ (49 + d ≤ c ∧ c ≤ 50))) ∧ ∀ n, p ≤ n → n < q → codeS x0 (nI n) ≠ 59
def PartNo (x0 : Mem) (tl p q : Nat) : Prop := p ≤ q ∧ q ≤ tl ∧ ∃ e : Nat, e ≤ 4 ∧ feS x0 (q - p) 0 p = nI e ∧ (q < tl → expS (nI e) (codeS x0 (nI q)) = 8)
/-- what is told of the part t, which stands from p to q -/
def TE (x0 y : Mem) (t p q : Nat) : Prop := y 14 (3 * t) = codeS x0 (nI p) ∧ y 14 (1 + 3 * t) = digS x0 (nI (p + 1)) ∧ (codeS x0 (nI p) = 99 ∨ y 14 (2 + 3 * t) = mskS x0 p q)
def MP (x y : Mem) (t : Nat) : Prop := ∀ b n, ¬ (b = 14 ∧ 3 * t ≤ n ∧ n < 3 * t + 3) → ¬ (b = 15 ∧ (n = 3 ∨ n = 4)) → y b n = x b n
theorem MP.rf (x : Mem) (t : Nat) : MP x x t := fun _ _ _ _ => rfl
theorem MP.u14 {x y : Mem} {t n : Nat} {v : Int32} (h : MP x y t) (hn : 3 * t ≤ n ∧ n < 3 * t + 3) : MP x (up y 14 n v) t := fun b m h1 h2 => by
  rw [up_ne _ _ (fun q => h1 ⟨q.1, by omega⟩)]; exact h b m h1 h2
theorem MP.u15 {x y : Mem} {t n : Nat} {v : Int32} (h : MP x y t) (hn : n = 3 ∨ n = 4) : MP x (up y 15 n v) t := fun b m h1 h2 => by
  rw [up_ne _ _ (fun q => h2 ⟨q.1, by omega⟩)]; exact h b m h1 h2
theorem MP.mt {x0 x y : Mem} {t : Nat} (h : MP x y t) (hM : MT x0 x) : MT x0 y := fun b n h1 h2 => (h b n (fun q => h1 q.1) (fun q => h2 ⟨q.1, by omega⟩)).trans (hM b n h1 h2)
theorem TE.mp {x0 x y : Mem} {t t' p q : Nat} (h : TE x0 x t p q) (hM : MP x y t') (ht : t < t') : TE x0 y t p q := by
  obtain ⟨h1, h2, h3⟩ := h
  refine ⟨(hM 14 _ (by omega) (by omega)).trans h1, (hM 14 _ (by omega) (by omega)).trans h2, h3.imp id (fun h => (hM 14 _ (by omega) (by omega)).trans h)⟩
theorem TE.m15 {x0 x y : Mem} {t p q : Nat} (h : TE x0 x t p q) (hM : y 14 = x 14) : TE x0 y t p q := by
  unfold TE at h ⊢
  rw [hM]
  exact h
abbrev So (c : Nat) (e1 : Nat) (hh : Nat) (e2 : Nat) : Prop := (c = 102 ∧ e1 = 1 ∧ hh = 51 ∧ e2 = 4) ∨ (c = 114 ∧ e1 = 2 ∧ hh = 55 ∧ e2 = 4) ∨ (c = 99 ∧ e1 = 3 ∧ hh = 50 ∧ e2 = 7)
theorem part_1 {x0 : Mem} {p c e1 hh e2 : Nat} (hs : So c e1 hh e2) (hc : codeS x0 (nI p) = nI c) : feS x0 1 0 p = nI e1 := by
  show expS 0 (codeS x0 (nI p)) = _
  rw [hc]
  rcases hs with ⟨rfl, rfl, -, -⟩ | ⟨rfl, rfl, -, -⟩ | ⟨rfl, rfl, -, -⟩ <;> decide +kernel
theorem exp_d2 {c e1 hh e2 d0 : Nat} (hs : So c e1 hh e2) (h : d0 ≤ 126) : expS (nI e1) (nI d0) = if 48 ≤ d0 ∧ d0 ≤ hh then nI e2 else 8 := by
  rcases hs with ⟨-, rfl, rfl, rfl⟩ | ⟨-, rfl, rfl, rfl⟩ | ⟨-, rfl, rfl, rfl⟩
  · exact exp_d (e := 1) (e' := 4) (hv := 0) (Or.inl ⟨rfl, rfl, rfl⟩) h
  · exact exp_d (e := 2) (e' := 4) (hv := 0) (Or.inr (Or.inl ⟨rfl, rfl, rfl⟩)) h
  · exact exp_d (e := 3) (e' := 7) (hv := 0) (Or.inr (Or.inr ⟨rfl, rfl, rfl⟩)) h
theorem part_2 {x0 : Mem} {p c e1 hh e2 d0 : Nat} (hs : So c e1 hh e2) (hc : codeS x0 (nI p) = nI c) (hd : codeS x0 (nI (p + 1)) = nI d0) (h1 : 48 ≤ d0) (h2 : d0 ≤ hh) : feS x0 2 0 p = nI e2 := by
  have h := feS_snoc (x := x0) (a := 1) (e := 0) (i := p)
  rw [show (2 : Nat) = 1 + 1 from rfl, h, part_1 hs hc, hd, exp_d2 hs (by rcases hs with ⟨-, -, h, -⟩ | ⟨-, -, h, -⟩ | ⟨-, -, h, -⟩ <;> omega), if_pos ⟨h1, h2⟩]
theorem n59 {c : Nat} (h : c ≤ 126) (h2 : c ≠ 59) : nI c ≠ 59 := fun q => h2 ((nEq (nn := 59) (n := 59) rfl (by omega) (by omega)).mp q)
theorem PartOk.d {x0 : Mem} {tl p q c hh e1 d0 : Nat} (hs : So c e1 hh 4) (hc : codeS x0 (nI p) = nI c) (hd : codeS x0 (nI (p + 1)) = nI d0) (h1 : 48 ≤ d0) (h2 : d0 ≤ hh) (h : DoorsOk x0 tl (p + 2) q) : PartOk x0 tl p q := by
  obtain ⟨a1, a2, ⟨d, b1, b2, b3⟩, a4⟩ := h
  have hh7 : hh ≤ 55 := by rcases hs with ⟨-, -, h, -⟩ | ⟨-, -, h, -⟩ | ⟨-, -, h, -⟩ <;> omega
  refine ⟨by omega, a2, ⟨d, b1, ?_, b3⟩, fun n n1 n2 => ?_⟩
  · rw [show q - p = 2 + (q - (p + 2)) by omega, feS_app, part_2 hs hc hd h1 h2]
    exact b2
  · by_cases e1 : n = p
    · rw [e1, hc]; exact n59 (by rcases hs with ⟨h, -, -, -⟩ | ⟨h, -, -, -⟩ | ⟨h, -, -, -⟩ <;> omega) (by rcases hs with ⟨h, -, -, -⟩ | ⟨h, -, -, -⟩ | ⟨h, -, -, -⟩ <;> omega)
    · by_cases e2 : n = p + 1
      · rw [e2, hd]; exact n59 (by omega) (by omega)
      · exact a4 n (by omega) n2
theorem PartOk.c {x0 : Mem} {tl p d0 : Nat} (hc : codeS x0 (nI p) = nI 99) (hd : codeS x0 (nI (p + 1)) = nI d0) (h1 : 48 ≤ d0) (h2 : d0 ≤ 50) (hl : p + 2 ≤ tl) (hcd : p + 2 < tl → ∃ c : Nat, 33 ≤ c ∧ c ≤ 126 ∧ codeS x0 (nI (p + 2)) = nI c) : PartOk x0 tl p (p + 2) := by
  have hs : So 99 3 50 7 := Or.inr (Or.inr ⟨rfl, rfl, rfl, rfl⟩)
  refine ⟨by omega, hl, ⟨2, by omega, ?_, fun h => ?_⟩, fun n n1 n2 => ?_⟩
  · rw [show p + 2 - p = 2 by omega, part_2 hs hc hd h1 h2]
  · obtain ⟨c, a1, a2, a3⟩ := hcd h
    exact ⟨c, a1, a2, a3, by omega⟩
  · by_cases e1 : n = p
    · rw [e1, hc]; exact n59 (by omega) (by omega)
    · rw [show n = p + 1 by omega, hd]; exact n59 (by omega) (by omega)
theorem PartNo.a {x0 : Mem} {tl p : Nat} (hl : p ≤ tl) (h : p < tl → ∃ c : Nat, c ≤ 126 ∧ codeS x0 (nI p) = nI c ∧ c ≠ 102 ∧ c ≠ 114 ∧ c ≠ 99) : PartNo x0 tl p p := by
  refine ⟨Nat.le_refl _, hl, 0, by omega, by rw [Nat.sub_self]; rfl, fun q => ?_⟩
  obtain ⟨c, h1, h2, h3, h4, h5⟩ := h q
  rw [h2]
  show expS 0 (nI c) = 8
  rw [exp_0 h1, if_neg h5, if_neg h3, if_neg h4]
theorem PartNo.b {x0 : Mem} {tl p c e1 hh e2 : Nat} (hs : So c e1 hh e2) (hc : codeS x0 (nI p) = nI c) (hl : p < tl) (h : p + 1 < tl → ∃ d0 : Nat, 33 ≤ d0 ∧ d0 ≤ 126 ∧ codeS x0 (nI (p + 1)) = nI d0 ∧ (d0 < 48 ∨ hh < d0)) : PartNo x0 tl p (p + 1) := by
  refine ⟨by omega, by omega, e1, by rcases hs with ⟨-, h, -, -⟩ | ⟨-, h, -, -⟩ | ⟨-, h, -, -⟩ <;> omega, by rw [show p + 1 - p = 1 by omega]; exact part_1 hs hc, fun q => ?_⟩
  obtain ⟨d0, h1, h2, h3, h4⟩ := h q
  rw [h3, exp_d2 hs h2, if_neg (by omega)]
theorem PartNo.c {x0 : Mem} {tl p c e1 hh d0 : Nat} (hs : So c e1 hh 4) (hc : codeS x0 (nI p) = nI c) (hd : codeS x0 (nI (p + 1)) = nI d0) (h1 : 48 ≤ d0) (h2 : d0 ≤ hh) (hl : p + 1 < tl) (h : p + 2 < tl → expS 4 (codeS x0 (nI (p + 2))) = 8) : PartNo x0 tl p (p + 2) :=
  ⟨by omega, by omega, 4, by omega, by rw [show p + 2 - p = 2 by omega]; exact part_2 hs hc hd h1 h2, h⟩
/-- the parts of a text that is complete -/
def TextOk (x0 y : Mem) (tl T : Nat) (st : Nat → Nat) : Prop := st 0 = 0 ∧ st T = tl + 1 ∧ T ≤ 20 ∧ ∀ t, t < T → PartOk x0 tl (st t) (st (t + 1) - 1) ∧ st t + 3 ≤ st (t + 1) ∧ st (t + 1) ≤ tl + 1 ∧ (t + 1 < T → codeS x0 (nI (st (t + 1) - 1)) = 59) ∧ TE x0 y t (st t) (st (t + 1) - 1)
/-- the loop over the parts -/
def TextIn (x0 y : Mem) (tl T p : Nat) (st : Nat → Nat) : Prop := st 0 = 0 ∧ st T = p ∧ 3 * T ≤ p ∧ ∀ t, t < T → PartOk x0 tl (st t) (st (t + 1) - 1) ∧ st t + 3 ≤ st (t + 1) ∧ st (t + 1) ≤ tl ∧ codeS x0 (nI (st (t + 1) - 1)) = 59 ∧ TE x0 y t (st t) (st (t + 1) - 1)
theorem stA_run {x0 : Mem} {p q : Nat} (h0 : stA x0 p = 0) (h : p ≤ q) : stA x0 q = feS x0 (q - p) 0 p := by
  unfold stA at h0 ⊢
  rw [show q = p + (q - p) by omega, feS_app, h0, Nat.zero_add, show p + (q - p) - p = q - p by omega]
theorem TextIn.n {x0 y y' : Mem} {tl T p q : Nat} {st : Nat → Nat} (h : TextIn x0 y tl T p st) (hM : MP y y' T) (hP : PartOk x0 tl p q) (hT : TE x0 y' T p q) (hq : q < tl) (hc : codeS x0 (nI q) = 59) : ∃ st', TextIn x0 y' tl (T + 1) (q + 1) st' := by
  obtain ⟨h1, h2, h3, h4⟩ := h
  refine ⟨fun t => if t ≤ T then st t else q + 1, by simp [h1], by show (if T + 1 ≤ T then _ else _) = _; rw [if_neg (by omega)], by have := hP.1; omega, fun t ht => ?_⟩
  by_cases e : t = T
  · subst e
    simp only [Nat.le_refl, if_true, show ¬ t + 1 ≤ t by omega, if_false, h2, Nat.add_sub_cancel]
    exact ⟨hP, by have := hP.1; omega, by omega, hc, hT⟩
  · have ht' : t < T := by omega
    simp only [show t ≤ T by omega, show t + 1 ≤ T by omega, if_true]
    obtain ⟨a1, a2, a3, a4, a5⟩ := h4 t ht'
    exact ⟨a1, a2, a3, a4, a5.mp hM ht'⟩
theorem TextIn.e {x0 y y' : Mem} {tl T p q : Nat} {st : Nat → Nat} (h : TextIn x0 y tl T p st) (h60 : tl ≤ 60) (hM : MP y y' T) (hP : PartOk x0 tl p q) (hT : TE x0 y' T p q) (hq : q = tl) : ∃ st', TextOk x0 y' tl (T + 1) st' := by
  obtain ⟨h1, h2, h3, h4⟩ := h
  refine ⟨fun t => if t ≤ T then st t else q + 1, by simp [h1], by show (if T + 1 ≤ T then _ else _) = _; rw [if_neg (by omega), hq], by have := hP.1; omega, fun t ht => ?_⟩
  by_cases e : t = T
  · subst e
    simp only [Nat.le_refl, if_true, show ¬ t + 1 ≤ t by omega, if_false, h2, Nat.add_sub_cancel]
    exact ⟨hP, by have := hP.1; omega, by omega, fun h => absurd h (by omega), hT⟩
  · have ht' : t < T := by omega
    simp only [show t ≤ T by omega, show t + 1 ≤ T by omega, if_true]
    obtain ⟨a1, a2, a3, a4, a5⟩ := h4 t ht'
    exact ⟨a1, a2, by omega, fun _ => a4, a5.mp hM ht'⟩
theorem TextOk.m15 {x0 x y : Mem} {tl T : Nat} {st : Nat → Nat} (h : TextOk x0 x tl T st) (hM : y 14 = x 14) : TextOk x0 y tl T st := by
  obtain ⟨h1, h2, h3, h4⟩ := h
  refine ⟨h1, h2, h3, fun t ht => ?_⟩
  obtain ⟨a1, a2, a3, a4, a5⟩ := h4 t ht
  exact ⟨a1, a2, a3, a4, a5.m15 hM⟩
/-- the text is no complete one: where it stops -/
def TextNo (x0 : Mem) (tl q : Nat) : Prop := q ≤ tl ∧ stA x0 q ≠ 8 ∧ (q < tl → expS (stA x0 q) (codeS x0 (nI q)) = 8) ∧ (q = tl → ∃ e : Nat, e ≤ 4 ∧ stA x0 q = nI e)
theorem nI_8 {e : Nat} (h : e ≤ 7) : nI e ≠ 8 := fun q => absurd ((nEq (nn := 8) (n := 8) rfl (by omega) (by omega)).mp q) (by omega)
theorem TextNo.p {x0 : Mem} {tl p q : Nat} (h0 : stA x0 p = 0) (h : PartNo x0 tl p q) : TextNo x0 tl q := by
  obtain ⟨h1, h2, e, h3, h4, h5⟩ := h
  have hs : stA x0 q = nI e := (stA_run h0 h1).trans h4
  exact ⟨h2, by rw [hs]; exact nI_8 (by omega), fun h => by rw [hs]; exact h5 h, fun _ => ⟨e, h3, hs⟩⟩
theorem TextNo.q {x0 : Mem} {tl p q : Nat} (h0 : stA x0 p = 0) (h : PartOk x0 tl p q) (hq : q < tl) (h59 : ∃ c : Nat, 33 ≤ c ∧ c ≤ 126 ∧ codeS x0 (nI q) = nI c ∧ (c < 59 ∨ 59 < c)) : TextNo x0 tl q := by
  obtain ⟨h1, h2, ⟨d, h3, h4, h5⟩, -⟩ := h
  have hs : stA x0 q = nI (5 + d) := (stA_run h0 (by omega)).trans h4
  refine ⟨h2, by rw [hs]; exact nI_8 (by omega), fun _ => ?_, fun h => absurd h (by omega)⟩
  obtain ⟨c, a1, a2, a3, a4⟩ := h59
  obtain ⟨c', b1, b2, b3, b4⟩ := h5 hq
  obtain rfl : c' = c := (nI_eq (by omega) (by omega)).mp (b3.symm.trans a3)
  rw [hs, a3, exp_s h3 ⟨a1, a2⟩, if_neg (by omega), if_neg b4]
theorem stA_ok {x0 : Mem} {tl p q : Nat} (h0 : stA x0 p = 0) (h : PartOk x0 tl p q) : ∃ d, d ≤ 2 ∧ stA x0 q = nI (5 + d) := by
  obtain ⟨h1, h2, ⟨d, h3, h4, h5⟩, -⟩ := h
  exact ⟨d, h3, (stA_run h0 (by omega)).trans h4⟩
theorem stA_59 {x0 : Mem} {tl p q : Nat} (h0 : stA x0 p = 0) (h : PartOk x0 tl p q) (hc : codeS x0 (nI q) = 59) : stA x0 (q + 1) = 0 := by
  obtain ⟨d, h3, h4⟩ := stA_ok h0 h
  have h5 := feS_snoc (x := x0) (a := q) (e := 0) (i := 0)
  unfold stA at h4 ⊢
  rw [h5, h4, Nat.zero_add, hc]
  have h6 := exp_s (c := 59) h3 (by omega)
  rw [if_pos rfl] at h6
  exact h6
theorem TXR.mt {xt x y : Mem} {tl : Nat} (h : TXR xt x tl) (hM : MT x y) : TXR xt y tl := by
  obtain ⟨h1, h2, h3, h4⟩ := h
  refine ⟨h1, h2, (hM 15 1 (by omega) (by omega)).trans h3, fun i hi => ?_⟩
  obtain ⟨h5, c, h6, h7, h8⟩ := h4 i hi
  have e13 := hM 13 i (by omega) (by omega)
  exact ⟨h5.trans e13.symm, c, h6, h7, e13.trans h8⟩
theorem TextIn.up15 {xt x y : Mem} {tl T p : Nat} {st : Nat → Nat} (h : TextIn xt x tl T p st) (hM : y 14 = x 14) : TextIn xt y tl T p st := by
  obtain ⟨h1, h2, h3, h4⟩ := h
  refine ⟨h1, h2, h3, fun t ht => ?_⟩
  obtain ⟨a1, a2, a3, a4, a5⟩ := h4 t ht
  exact ⟨a1, a2, a3, a4, a5.m15 hM⟩
set_option maxHeartbeats 4000000 in
set_option maxRecDepth 100000 in
theorem c_X9_isPart {l : Launch} {D : va_G} {cy : Nat → ClassId} {ad : Ads} (hI : IJ ad) (x : Mem) (x0 xt : Mem) {pp tl tq : Nat} (hT : TXR xt x0 tl) (hM : MT x0 x) (hp : x 15 3 = nI pp) (hpl : pp ≤ tl) (htq : x 15 5 = nI tq) (h3 : 3 * tq ≤ pp) : Cti l yX9_isPart cX9_isPart 2 (some .boolean) rm_X9_isPart D cy ad [.ref (ad 15 14 0)] x (fun r y => (r = 1 ∧ ∃ q, PartOk xt tl pp q ∧ TE xt y tq pp q ∧ y 15 3 = nI q ∧ MP x y tq) ∨ (r = 0 ∧ ∃ q, PartNo xt tl pp q ∧ y 15 3 = nI q ∧ y 15 4 = flg q tl ∧ MP x y tq)) := by
  have h60 : tl ≤ 60 := hT.1
  refine rm_entry (Qc := Qi D cy ad (fun r y => (r = 1 ∧ ∃ q, PartOk xt tl pp q ∧ TE xt y tq pp q ∧ y 15 3 = nI q ∧ MP x y tq) ∨ (r = 0 ∧ ∃ q, PartNo xt tl pp q ∧ y 15 3 = nI q ∧ y 15 4 = flg q tl ∧ MP x y tq))) hI (by decide) (Nat.le_of_ble_eq_true rfl) ?_
  intro p e s m args below meth c hc
  show RM _ _ _ _ _ _ _ _ _ _ _ _ _ _ _ _ _ [(0, .ref (ad 15 14 0))] []
  refine rm_aload_n hc dX9_isPart_0 rfl rfl ?_
  refine rm_geti hc dX9_isPart_1 fl_X9_117 dm_14 rfl rfl (fun v_1 e_1 => ?_)
  obtain rfl : v_1 = (nI (pp)) := e_1.trans hp
  refine rm_aload_n hc dX9_isPart_4 rfl rfl ?_
  refine rm_geti hc dX9_isPart_5 fl_X9_114 dm_14 rfl rfl (fun v_2 e_2 => ?_)
  obtain rfl : v_2 = (nI (tl)) := e_2.trans (hT.t hM)
  rcases Nat.lt_or_ge pp tl with z_3 | z_3
  · --
    refine rm_icmp_ge (tgt := 23) hc dX9_isPart_8 (by decide) (fun h => absurd h (fun h2 => absurd ((nI_leI (a := tl) (b := pp) (by omega) (by omega)).mp h2) (by omega))) (fun _ => ?_)
    refine rm_aload_n hc dX9_isPart_11 rfl rfl ?_
    refine rm_get hc dX9_isPart_12 fl_X9_19 dm_14 rfl rfl ?_
    refine rm_aload_n hc dX9_isPart_15 rfl rfl ?_
    refine rm_geti hc dX9_isPart_16 fl_X9_117 dm_14 rfl rfl (fun v_4 e_4 => ?_)
    obtain rfl : v_4 = (nI (pp)) := e_4.trans hp
    refine rm_iald (i := pp) hc dX9_isPart_19 dm_17 rfl (by omega) (by decide) rfl (fun v_5 e_5 => ?_)
    obtain ⟨c1, hc33, hc126, hc13, hcc⟩ := hT.c hM (i := pp) (by omega)
    obtain rfl : v_5 = nI c1 := e_5.trans hc13
    refine rm_goto (tgt := 24) hc dX9_isPart_20 (by decide) ?_
    refine rm_istore_n (ls' := [(0, .ref (ad 15 14 0)), (1, .int (nI (c1)))]) hc dX9_isPart_24 rfl (by decide) rfl ?_
    refine rm_aload_n hc dX9_isPart_25 rfl rfl ?_
    refine rm_get hc dX9_isPart_26 fl_X9_22 dm_14 rfl rfl ?_
    refine rm_iconst (v := 3) hc dX9_isPart_29 (by decide) ?_
    refine rm_aload_n hc dX9_isPart_30 rfl rfl ?_
    refine rm_geti hc dX9_isPart_31 fl_X9_131 dm_14 rfl rfl (fun v_6 e_6 => ?_)
    obtain rfl : v_6 = (nI (tq)) := e_6.trans htq
    refine rm_imul hc dX9_isPart_34 (fun v_7 e_7 => ?_)
    obtain rfl : v_7 = (nI (3 * tq)) := e_7.trans (nmul (m := 3) (n := tq) (by omega))
    clear e_7
    refine rm_iload_n hc dX9_isPart_35 rfl rfl ?_
    refine rm_iast (i := 3 * tq) hc dX9_isPart_36 dm_18 rfl (by omega) (by decide) rfl so_18 (rm_nm (fun x_8 ex_8 => ?_))
    have hM1 : MT x0 x_8 := by rw [ex_8]; exact hM.u14 _ _
    have hp1 : x_8 15 3 = nI (pp) := by rw [ex_8, up_b _ _ _ (by omega)]; exact hp
    have htq1 : x_8 15 5 = nI tq := by rw [ex_8, up_b _ _ _ (by omega)]; exact htq
    have hmp1 : MP x x_8 tq := by rw [ex_8]; exact (MP.rf x tq).u14 (by omega)
    have ht0 : x_8 14 (3 * tq) = nI c1 := by rw [ex_8]; exact up_s _ _ _ _
    rcases (show c1 = 102 ∨ c1 = 114 ∨ c1 = 99 ∨ (c1 ≠ 102 ∧ c1 ≠ 114 ∧ c1 ≠ 99) by omega) with rfl | rfl | rfl | hne
    · --
      have hso : So 102 1 51 4 := by decide
      refine rm_iload_n hc dX9_isPart_37 rfl rfl ?_
      refine rm_bipush (v := 102) hc dX9_isPart_38 (by decide) ?_
      refine rm_icmp_eq (tgt := 60) hc dX9_isPart_40 (by decide) (fun _ => ?_) (fun h => absurd (by decide) h)
      refine rm_aload_n hc dX9_isPart_60 rfl rfl ?_
      refine rm_dup hc dX9_isPart_61 rfl ?_
      refine rm_geti hc dX9_isPart_62 fl_X9_117 dm_14 rfl rfl (fun v_10 e_10 => ?_)
      obtain rfl : v_10 = (nI (pp)) := e_10.trans hp1
      refine rm_iconst (v := 1) hc dX9_isPart_65 (by decide) ?_
      refine rm_iadd hc dX9_isPart_66 (fun v_11 e_11 => ?_)
      obtain rfl : v_11 = (nI (pp + 1)) := e_11.trans (nadd (m := pp) (n := 1) (by omega))
      clear e_11
      refine rm_put hc dX9_isPart_67 fl_X9_117 dm_14 rfl (Nat.le_of_ble_eq_true rfl) ft_9_7 rfl rfl so_14_7 (rm_nm (fun x_12 ex_12 => ?_))
      have hM2 : MT x0 x_12 := by rw [ex_12]; exact hM1.u15 (by omega) _
      have hp2 : x_12 15 3 = nI (pp + 1) := by rw [ex_12]; exact up_s _ _ _ _
      have htq2 : x_12 15 5 = nI tq := by rw [ex_12, up_n _ _ (by omega)]; exact htq1
      have hmp2 : MP x x_12 tq := by rw [ex_12]; exact hmp1.u15 (by omega)
      have ht02 : x_12 14 (3 * tq) = nI 102 := by rw [ex_12, up_b _ _ _ (by omega)]; exact ht0
      refine rm_aload_n hc dX9_isPart_70 rfl rfl ?_
      refine rm_iload_n hc dX9_isPart_71 rfl rfl ?_
      refine rm_bipush (v := 102) hc dX9_isPart_72 (by decide) ?_
      refine rm_icmp_ne (tgt := 82) hc dX9_isPart_74 (by decide) (fun h => absurd h (by decide)) (fun _ => ?_)
      refine rm_bipush (v := 51) hc dX9_isPart_77 (by decide) ?_
      refine rm_goto (tgt := 95) hc dX9_isPart_79 (by decide) ?_
      refine rm_calliV (As := [.int 51]) (rest := []) hc dX9_isPart_95 (c_X9_isDigit hI x_12 x0 xt (pp := pp + 1) (tl := tl) (tq := tq) hT hM2 hp2 (by omega) htq2 (by omega) (hh := 51) (by omega)) mv_X9_134 dm_14 rfl rfl (hn := rfl) (hst := rfl) (hw := Nat.le_of_ble_eq_true rfl) (hR := ⟨⟨rfl, rfl⟩, Nat.le_of_ble_eq_true rfl, Nat.le_of_ble_eq_true rfl⟩) (hnc := ⟨Nat.zero_le _, Nat.zero_le _⟩) (fun r_14 y_14 h_14 => ?_)
      rcases h_14 with ⟨hr_14, hlt2, d0, hd1, hd2, hdc, hey⟩ | ⟨hr_14, hno2, hey⟩
      · --
        obtain rfl : r_14 = 1 := hr_14
        have hM3 : MT x0 y_14 := by rw [hey]; exact (hM2.u14 _ _).u15 (by omega) _
        have hp3 : y_14 15 3 = nI (pp + 2) := by rw [hey]; exact up_s _ _ _ _
        have htq3 : y_14 15 5 = nI tq := by rw [hey, up_n _ _ (by omega), up_b _ _ _ (by omega)]; exact htq2
        have hmp3 : MP x y_14 tq := by rw [hey]; exact (hmp2.u14 (by omega)).u15 (by omega)
        have ht03 : y_14 14 (3 * tq) = nI 102 := by rw [hey, up_b _ _ _ (by omega), up_n _ _ (by omega)]; exact ht02
        have ht13 : y_14 14 (1 + 3 * tq) = digS xt (nI (pp + 1)) := by rw [hey, up_b _ _ _ (by omega), up_s]; exact (dig_n hdc hd1 (by omega)).symm
        refine rm_if_eq (tgt := 118) hc dX9_isPart_98 (by decide) (fun h => absurd h (by decide)) (fun _ => ?_)
        refine rm_iload_n hc dX9_isPart_101 rfl rfl ?_
        refine rm_bipush (v := 99) hc dX9_isPart_102 (by decide) ?_
        refine rm_icmp_eq (tgt := 114) hc dX9_isPart_104 (by decide) (fun h => absurd h (by decide)) (fun _ => ?_)
        refine rm_aload_n hc dX9_isPart_107 rfl rfl ?_
        refine rm_calliV (As := []) (rest := []) hc dX9_isPart_108 (c_X9_areDoors hI y_14 x0 xt (pp := pp + 2) (tl := tl) (tq := tq) hT hM3 hp3 (by omega) htq3 (by omega)) mv_X9_137 dm_14 rfl rfl (hn := rfl) (hst := rfl) (hw := Nat.le_of_ble_eq_true rfl) (hR := ⟨⟨rfl, rfl⟩, Nat.le_of_ble_eq_true rfl, Nat.le_of_ble_eq_true rfl⟩) (hnc := ⟨Nat.zero_le _, Nat.zero_le _⟩) (fun r_17 y_17 h_17 => ?_)
        rcases h_17 with ⟨hr_17, q, hdo, hey4⟩ | ⟨hr_17, hno4, hey4⟩
        · --
          obtain rfl : r_17 = 1 := hr_17
          refine rm_if_eq (tgt := 118) hc dX9_isPart_111 (by decide) (fun h => absurd h (by decide)) (fun _ => ?_)
          refine rm_iconst (v := 1) hc dX9_isPart_114 (by decide) ?_
          refine rm_goto (tgt := 119) hc dX9_isPart_115 (by decide) ?_
          exact rm_zret hc dX9_isPart_119 rfl (Or.inl ⟨rfl, q, PartOk.d hso hcc hdc hd1 hd2 hdo, ⟨by rw [hey4, up_b _ _ _ (by omega), up_n _ _ (by omega), hcc]; exact ht03, by rw [hey4, up_b _ _ _ (by omega), up_n _ _ (by omega)]; exact ht13, Or.inr (by rw [hey4, up_b _ _ _ (by omega)]; exact up_s _ _ _ _)⟩, by rw [hey4]; exact up_s _ _ _ _, by rw [hey4]; exact (hmp3.u14 (by omega)).u15 (by omega)⟩)
        · --
          obtain rfl : r_17 = 0 := hr_17
          refine rm_if_eq (tgt := 118) hc dX9_isPart_111 (by decide) (fun _ => ?_) (fun h => absurd (by decide) h)
          refine rm_iconst (v := 0) hc dX9_isPart_118 (by decide) ?_
          exact rm_zret hc dX9_isPart_119 rfl (Or.inr ⟨rfl, pp + 2, PartNo.c hso hcc hdc hd1 hd2 (by omega) hno4, by rw [hey4, up_n _ _ (by omega), up_b _ _ _ (by omega)]; exact hp3, by rw [hey4]; exact up_s _ _ _ _, by rw [hey4]; exact (hmp3.u14 (by omega)).u15 (by omega)⟩)
      · --
        obtain rfl : r_14 = 0 := hr_14
        refine rm_if_eq (tgt := 118) hc dX9_isPart_98 (by decide) (fun _ => ?_) (fun h => absurd (by decide) h)
        refine rm_iconst (v := 0) hc dX9_isPart_118 (by decide) ?_
        exact rm_zret hc dX9_isPart_119 rfl (Or.inr ⟨rfl, pp + 1, PartNo.b hso hcc (by omega) hno2, by rw [hey, up_n _ _ (by omega)]; exact hp2, by rw [hey]; exact up_s _ _ _ _, by rw [hey]; exact hmp2.u15 (by omega)⟩)
    · --
      have hso : So 114 2 55 4 := by decide
      refine rm_iload_n hc dX9_isPart_37 rfl rfl ?_
      refine rm_bipush (v := 102) hc dX9_isPart_38 (by decide) ?_
      refine rm_icmp_eq (tgt := 60) hc dX9_isPart_40 (by decide) (fun h => absurd h (by decide)) (fun _ => ?_)
      refine rm_iload_n hc dX9_isPart_43 rfl rfl ?_
      refine rm_bipush (v := 114) hc dX9_isPart_44 (by decide) ?_
      refine rm_icmp_eq (tgt := 60) hc dX9_isPart_46 (by decide) (fun _ => ?_) (fun h => absurd (by decide) h)
      refine rm_aload_n hc dX9_isPart_60 rfl rfl ?_
      refine rm_dup hc dX9_isPart_61 rfl ?_
      refine rm_geti hc dX9_isPart_62 fl_X9_117 dm_14 rfl rfl (fun v_23 e_23 => ?_)
      obtain rfl : v_23 = (nI (pp)) := e_23.trans hp1
      refine rm_iconst (v := 1) hc dX9_isPart_65 (by decide) ?_
      refine rm_iadd hc dX9_isPart_66 (fun v_24 e_24 => ?_)
      obtain rfl : v_24 = (nI (pp + 1)) := e_24.trans (nadd (m := pp) (n := 1) (by omega))
      clear e_24
      refine rm_put hc dX9_isPart_67 fl_X9_117 dm_14 rfl (Nat.le_of_ble_eq_true rfl) ft_9_7 rfl rfl so_14_7 (rm_nm (fun x_25 ex_25 => ?_))
      have hM2 : MT x0 x_25 := by rw [ex_25]; exact hM1.u15 (by omega) _
      have hp2 : x_25 15 3 = nI (pp + 1) := by rw [ex_25]; exact up_s _ _ _ _
      have htq2 : x_25 15 5 = nI tq := by rw [ex_25, up_n _ _ (by omega)]; exact htq1
      have hmp2 : MP x x_25 tq := by rw [ex_25]; exact hmp1.u15 (by omega)
      have ht02 : x_25 14 (3 * tq) = nI 114 := by rw [ex_25, up_b _ _ _ (by omega)]; exact ht0
      refine rm_aload_n hc dX9_isPart_70 rfl rfl ?_
      refine rm_iload_n hc dX9_isPart_71 rfl rfl ?_
      refine rm_bipush (v := 102) hc dX9_isPart_72 (by decide) ?_
      refine rm_icmp_ne (tgt := 82) hc dX9_isPart_74 (by decide) (fun _ => ?_) (fun h => absurd h (by decide))
      refine rm_iload_n hc dX9_isPart_82 rfl rfl ?_
      refine rm_bipush (v := 114) hc dX9_isPart_83 (by decide) ?_
      refine rm_icmp_ne (tgt := 93) hc dX9_isPart_85 (by decide) (fun h => absurd h (by decide)) (fun _ => ?_)
      refine rm_bipush (v := 55) hc dX9_isPart_88 (by decide) ?_
      refine rm_goto (tgt := 95) hc dX9_isPart_90 (by decide) ?_
      refine rm_calliV (As := [.int 55]) (rest := []) hc dX9_isPart_95 (c_X9_isDigit hI x_25 x0 xt (pp := pp + 1) (tl := tl) (tq := tq) hT hM2 hp2 (by omega) htq2 (by omega) (hh := 55) (by omega)) mv_X9_134 dm_14 rfl rfl (hn := rfl) (hst := rfl) (hw := Nat.le_of_ble_eq_true rfl) (hR := ⟨⟨rfl, rfl⟩, Nat.le_of_ble_eq_true rfl, Nat.le_of_ble_eq_true rfl⟩) (hnc := ⟨Nat.zero_le _, Nat.zero_le _⟩) (fun r_28 y_28 h_28 => ?_)
      rcases h_28 with ⟨hr_28, hlt2, d0, hd1, hd2, hdc, hey⟩ | ⟨hr_28, hno2, hey⟩
      · --
        obtain rfl : r_28 = 1 := hr_28
        have hM3 : MT x0 y_28 := by rw [hey]; exact (hM2.u14 _ _).u15 (by omega) _
        have hp3 : y_28 15 3 = nI (pp + 2) := by rw [hey]; exact up_s _ _ _ _
        have htq3 : y_28 15 5 = nI tq := by rw [hey, up_n _ _ (by omega), up_b _ _ _ (by omega)]; exact htq2
        have hmp3 : MP x y_28 tq := by rw [hey]; exact (hmp2.u14 (by omega)).u15 (by omega)
        have ht03 : y_28 14 (3 * tq) = nI 114 := by rw [hey, up_b _ _ _ (by omega), up_n _ _ (by omega)]; exact ht02
        have ht13 : y_28 14 (1 + 3 * tq) = digS xt (nI (pp + 1)) := by rw [hey, up_b _ _ _ (by omega), up_s]; exact (dig_n hdc hd1 (by omega)).symm
        refine rm_if_eq (tgt := 118) hc dX9_isPart_98 (by decide) (fun h => absurd h (by decide)) (fun _ => ?_)
        refine rm_iload_n hc dX9_isPart_101 rfl rfl ?_
        refine rm_bipush (v := 99) hc dX9_isPart_102 (by decide) ?_
        refine rm_icmp_eq (tgt := 114) hc dX9_isPart_104 (by decide) (fun h => absurd h (by decide)) (fun _ => ?_)
        refine rm_aload_n hc dX9_isPart_107 rfl rfl ?_
        refine rm_calliV (As := []) (rest := []) hc dX9_isPart_108 (c_X9_areDoors hI y_28 x0 xt (pp := pp + 2) (tl := tl) (tq := tq) hT hM3 hp3 (by omega) htq3 (by omega)) mv_X9_137 dm_14 rfl rfl (hn := rfl) (hst := rfl) (hw := Nat.le_of_ble_eq_true rfl) (hR := ⟨⟨rfl, rfl⟩, Nat.le_of_ble_eq_true rfl, Nat.le_of_ble_eq_true rfl⟩) (hnc := ⟨Nat.zero_le _, Nat.zero_le _⟩) (fun r_31 y_31 h_31 => ?_)
        rcases h_31 with ⟨hr_31, q, hdo, hey4⟩ | ⟨hr_31, hno4, hey4⟩
        · --
          obtain rfl : r_31 = 1 := hr_31
          refine rm_if_eq (tgt := 118) hc dX9_isPart_111 (by decide) (fun h => absurd h (by decide)) (fun _ => ?_)
          refine rm_iconst (v := 1) hc dX9_isPart_114 (by decide) ?_
          refine rm_goto (tgt := 119) hc dX9_isPart_115 (by decide) ?_
          exact rm_zret hc dX9_isPart_119 rfl (Or.inl ⟨rfl, q, PartOk.d hso hcc hdc hd1 hd2 hdo, ⟨by rw [hey4, up_b _ _ _ (by omega), up_n _ _ (by omega), hcc]; exact ht03, by rw [hey4, up_b _ _ _ (by omega), up_n _ _ (by omega)]; exact ht13, Or.inr (by rw [hey4, up_b _ _ _ (by omega)]; exact up_s _ _ _ _)⟩, by rw [hey4]; exact up_s _ _ _ _, by rw [hey4]; exact (hmp3.u14 (by omega)).u15 (by omega)⟩)
        · --
          obtain rfl : r_31 = 0 := hr_31
          refine rm_if_eq (tgt := 118) hc dX9_isPart_111 (by decide) (fun _ => ?_) (fun h => absurd (by decide) h)
          refine rm_iconst (v := 0) hc dX9_isPart_118 (by decide) ?_
          exact rm_zret hc dX9_isPart_119 rfl (Or.inr ⟨rfl, pp + 2, PartNo.c hso hcc hdc hd1 hd2 (by omega) hno4, by rw [hey4, up_n _ _ (by omega), up_b _ _ _ (by omega)]; exact hp3, by rw [hey4]; exact up_s _ _ _ _, by rw [hey4]; exact (hmp3.u14 (by omega)).u15 (by omega)⟩)
      · --
        obtain rfl : r_28 = 0 := hr_28
        refine rm_if_eq (tgt := 118) hc dX9_isPart_98 (by decide) (fun _ => ?_) (fun h => absurd (by decide) h)
        refine rm_iconst (v := 0) hc dX9_isPart_118 (by decide) ?_
        exact rm_zret hc dX9_isPart_119 rfl (Or.inr ⟨rfl, pp + 1, PartNo.b hso hcc (by omega) hno2, by rw [hey, up_n _ _ (by omega)]; exact hp2, by rw [hey]; exact up_s _ _ _ _, by rw [hey]; exact hmp2.u15 (by omega)⟩)
    · --
      have hso : So 99 3 50 7 := by decide
      refine rm_iload_n hc dX9_isPart_37 rfl rfl ?_
      refine rm_bipush (v := 102) hc dX9_isPart_38 (by decide) ?_
      refine rm_icmp_eq (tgt := 60) hc dX9_isPart_40 (by decide) (fun h => absurd h (by decide)) (fun _ => ?_)
      refine rm_iload_n hc dX9_isPart_43 rfl rfl ?_
      refine rm_bipush (v := 114) hc dX9_isPart_44 (by decide) ?_
      refine rm_icmp_eq (tgt := 60) hc dX9_isPart_46 (by decide) (fun h => absurd h (by decide)) (fun _ => ?_)
      refine rm_iload_n hc dX9_isPart_49 rfl rfl ?_
      refine rm_bipush (v := 99) hc dX9_isPart_50 (by decide) ?_
      refine rm_icmp_eq (tgt := 60) hc dX9_isPart_52 (by decide) (fun _ => ?_) (fun h => absurd (by decide) h)
      refine rm_aload_n hc dX9_isPart_60 rfl rfl ?_
      refine rm_dup hc dX9_isPart_61 rfl ?_
      refine rm_geti hc dX9_isPart_62 fl_X9_117 dm_14 rfl rfl (fun v_38 e_38 => ?_)
      obtain rfl : v_38 = (nI (pp)) := e_38.trans hp1
      refine rm_iconst (v := 1) hc dX9_isPart_65 (by decide) ?_
      refine rm_iadd hc dX9_isPart_66 (fun v_39 e_39 => ?_)
      obtain rfl : v_39 = (nI (pp + 1)) := e_39.trans (nadd (m := pp) (n := 1) (by omega))
      clear e_39
      refine rm_put hc dX9_isPart_67 fl_X9_117 dm_14 rfl (Nat.le_of_ble_eq_true rfl) ft_9_7 rfl rfl so_14_7 (rm_nm (fun x_40 ex_40 => ?_))
      have hM2 : MT x0 x_40 := by rw [ex_40]; exact hM1.u15 (by omega) _
      have hp2 : x_40 15 3 = nI (pp + 1) := by rw [ex_40]; exact up_s _ _ _ _
      have htq2 : x_40 15 5 = nI tq := by rw [ex_40, up_n _ _ (by omega)]; exact htq1
      have hmp2 : MP x x_40 tq := by rw [ex_40]; exact hmp1.u15 (by omega)
      have ht02 : x_40 14 (3 * tq) = nI 99 := by rw [ex_40, up_b _ _ _ (by omega)]; exact ht0
      refine rm_aload_n hc dX9_isPart_70 rfl rfl ?_
      refine rm_iload_n hc dX9_isPart_71 rfl rfl ?_
      refine rm_bipush (v := 102) hc dX9_isPart_72 (by decide) ?_
      refine rm_icmp_ne (tgt := 82) hc dX9_isPart_74 (by decide) (fun _ => ?_) (fun h => absurd h (by decide))
      refine rm_iload_n hc dX9_isPart_82 rfl rfl ?_
      refine rm_bipush (v := 114) hc dX9_isPart_83 (by decide) ?_
      refine rm_icmp_ne (tgt := 93) hc dX9_isPart_85 (by decide) (fun _ => ?_) (fun h => absurd h (by decide))
      refine rm_bipush (v := 50) hc dX9_isPart_93 (by decide) ?_
      refine rm_calliV (As := [.int 50]) (rest := []) hc dX9_isPart_95 (c_X9_isDigit hI x_40 x0 xt (pp := pp + 1) (tl := tl) (tq := tq) hT hM2 hp2 (by omega) htq2 (by omega) (hh := 50) (by omega)) mv_X9_134 dm_14 rfl rfl (hn := rfl) (hst := rfl) (hw := Nat.le_of_ble_eq_true rfl) (hR := ⟨⟨rfl, rfl⟩, Nat.le_of_ble_eq_true rfl, Nat.le_of_ble_eq_true rfl⟩) (hnc := ⟨Nat.zero_le _, Nat.zero_le _⟩) (fun r_43 y_43 h_43 => ?_)
      rcases h_43 with ⟨hr_43, hlt2, d0, hd1, hd2, hdc, hey⟩ | ⟨hr_43, hno2, hey⟩
      · --
        obtain rfl : r_43 = 1 := hr_43
        have hM3 : MT x0 y_43 := by rw [hey]; exact (hM2.u14 _ _).u15 (by omega) _
        have hp3 : y_43 15 3 = nI (pp + 2) := by rw [hey]; exact up_s _ _ _ _
        have htq3 : y_43 15 5 = nI tq := by rw [hey, up_n _ _ (by omega), up_b _ _ _ (by omega)]; exact htq2
        have hmp3 : MP x y_43 tq := by rw [hey]; exact (hmp2.u14 (by omega)).u15 (by omega)
        have ht03 : y_43 14 (3 * tq) = nI 99 := by rw [hey, up_b _ _ _ (by omega), up_n _ _ (by omega)]; exact ht02
        have ht13 : y_43 14 (1 + 3 * tq) = digS xt (nI (pp + 1)) := by rw [hey, up_b _ _ _ (by omega), up_s]; exact (dig_n hdc hd1 (by omega)).symm
        refine rm_if_eq (tgt := 118) hc dX9_isPart_98 (by decide) (fun h => absurd h (by decide)) (fun _ => ?_)
        refine rm_iload_n hc dX9_isPart_101 rfl rfl ?_
        refine rm_bipush (v := 99) hc dX9_isPart_102 (by decide) ?_
        refine rm_icmp_eq (tgt := 114) hc dX9_isPart_104 (by decide) (fun _ => ?_) (fun h => absurd (by decide) h)
        refine rm_iconst (v := 1) hc dX9_isPart_114 (by decide) ?_
        refine rm_goto (tgt := 119) hc dX9_isPart_115 (by decide) ?_
        exact rm_zret hc dX9_isPart_119 rfl (Or.inl ⟨rfl, pp + 2, PartOk.c hcc hdc hd1 hd2 (by omega) (fun h => by obtain ⟨k, k1, k2, k3, k4⟩ := hT.c hM h; exact ⟨k, k1, k2, k4⟩), ⟨ht03.trans hcc.symm, ht13, Or.inl hcc⟩, hp3, hmp3⟩)
      · --
        obtain rfl : r_43 = 0 := hr_43
        refine rm_if_eq (tgt := 118) hc dX9_isPart_98 (by decide) (fun _ => ?_) (fun h => absurd (by decide) h)
        refine rm_iconst (v := 0) hc dX9_isPart_118 (by decide) ?_
        exact rm_zret hc dX9_isPart_119 rfl (Or.inr ⟨rfl, pp + 1, PartNo.b hso hcc (by omega) hno2, by rw [hey, up_n _ _ (by omega)]; exact hp2, by rw [hey]; exact up_s _ _ _ _, by rw [hey]; exact hmp2.u15 (by omega)⟩)
    · --
      refine rm_iload_n hc dX9_isPart_37 rfl rfl ?_
      refine rm_bipush (v := 102) hc dX9_isPart_38 (by decide) ?_
      refine rm_icmp_eq (tgt := 60) hc dX9_isPart_40 (by decide) (fun h => absurd h (fun h2 => absurd ((nI_eq (a := c1) (b := 102) (by omega) (by omega)).mp h2) (by omega))) (fun _ => ?_)
      refine rm_iload_n hc dX9_isPart_43 rfl rfl ?_
      refine rm_bipush (v := 114) hc dX9_isPart_44 (by decide) ?_
      refine rm_icmp_eq (tgt := 60) hc dX9_isPart_46 (by decide) (fun h => absurd h (fun h2 => absurd ((nI_eq (a := c1) (b := 114) (by omega) (by omega)).mp h2) (by omega))) (fun _ => ?_)
      refine rm_iload_n hc dX9_isPart_49 rfl rfl ?_
      refine rm_bipush (v := 99) hc dX9_isPart_50 (by decide) ?_
      refine rm_icmp_eq (tgt := 60) hc dX9_isPart_52 (by decide) (fun h => absurd h (fun h2 => absurd ((nI_eq (a := c1) (b := 99) (by omega) (by omega)).mp h2) (by omega))) (fun _ => ?_)
      refine rm_aload_n hc dX9_isPart_55 rfl rfl ?_
      refine rm_calliV (As := []) (rest := []) hc dX9_isPart_56 (c_X9_stops hI x_8 (pp := pp) (tl := tl) hp1 (hT.t hM1) (by omega) (by omega)) mv_X9_127 dm_14 rfl rfl (hn := rfl) (hst := rfl) (hw := Nat.le_of_ble_eq_true rfl) (hR := ⟨⟨rfl, rfl⟩, Nat.le_of_ble_eq_true rfl, Nat.le_of_ble_eq_true rfl⟩) (hnc := ⟨Nat.zero_le _, Nat.zero_le _⟩) (fun r_50 y_50 h_50 => ?_)
      obtain ⟨e_50, ey_50⟩ := h_50
      obtain rfl : r_50 = 0 := e_50
      exact rm_zret hc dX9_isPart_59 rfl (Or.inr ⟨rfl, pp, PartNo.a hpl (fun _ => ⟨c1, by omega, hcc, hne⟩), by rw [ey_50, up_n _ _ (by omega)]; exact hp1, by rw [ey_50]; exact up_s _ _ _ _, by rw [ey_50]; exact hmp1.u15 (by omega)⟩)
  · --
    refine rm_icmp_ge (tgt := 23) hc dX9_isPart_8 (by decide) (fun _ => ?_) (fun h => absurd ((nI_leI (a := tl) (b := pp) (by omega) (by omega)).mpr (by omega)) h)
    refine rm_iconst (v := 0) hc dX9_isPart_23 (by decide) ?_
    refine rm_istore_n (ls' := [(0, .ref (ad 15 14 0)), (1, .int 0)]) hc dX9_isPart_24 rfl (by decide) rfl ?_
    refine rm_aload_n hc dX9_isPart_25 rfl rfl ?_
    refine rm_get hc dX9_isPart_26 fl_X9_22 dm_14 rfl rfl ?_
    refine rm_iconst (v := 3) hc dX9_isPart_29 (by decide) ?_
    refine rm_aload_n hc dX9_isPart_30 rfl rfl ?_
    refine rm_geti hc dX9_isPart_31 fl_X9_131 dm_14 rfl rfl (fun v_51 e_51 => ?_)
    obtain rfl : v_51 = (nI (tq)) := e_51.trans htq
    refine rm_imul hc dX9_isPart_34 (fun v_52 e_52 => ?_)
    obtain rfl : v_52 = (nI (3 * tq)) := e_52.trans (nmul (m := 3) (n := tq) (by omega))
    clear e_52
    refine rm_iload_n hc dX9_isPart_35 rfl rfl ?_
    refine rm_iast (i := 3 * tq) hc dX9_isPart_36 dm_18 rfl (by omega) (by decide) rfl so_18 (rm_nm (fun x_53 ex_53 => ?_))
    have hM1 : MT x0 x_53 := by rw [ex_53]; exact hM.u14 _ _
    have hp1 : x_53 15 3 = nI (pp) := by rw [ex_53, up_b _ _ _ (by omega)]; exact hp
    have htq1 : x_53 15 5 = nI tq := by rw [ex_53, up_b _ _ _ (by omega)]; exact htq
    have hmp1 : MP x x_53 tq := by rw [ex_53]; exact (MP.rf x tq).u14 (by omega)
    refine rm_iload_n hc dX9_isPart_37 rfl rfl ?_
    refine rm_bipush (v := 102) hc dX9_isPart_38 (by decide) ?_
    refine rm_icmp_eq (tgt := 60) hc dX9_isPart_40 (by decide) (fun h => absurd h (by decide)) (fun _ => ?_)
    refine rm_iload_n hc dX9_isPart_43 rfl rfl ?_
    refine rm_bipush (v := 114) hc dX9_isPart_44 (by decide) ?_
    refine rm_icmp_eq (tgt := 60) hc dX9_isPart_46 (by decide) (fun h => absurd h (by decide)) (fun _ => ?_)
    refine rm_iload_n hc dX9_isPart_49 rfl rfl ?_
    refine rm_bipush (v := 99) hc dX9_isPart_50 (by decide) ?_
    refine rm_icmp_eq (tgt := 60) hc dX9_isPart_52 (by decide) (fun h => absurd h (by decide)) (fun _ => ?_)
    refine rm_aload_n hc dX9_isPart_55 rfl rfl ?_
    refine rm_calliV (As := []) (rest := []) hc dX9_isPart_56 (c_X9_stops hI x_53 (pp := pp) (tl := tl) hp1 (hT.t hM1) (by omega) (by omega)) mv_X9_127 dm_14 rfl rfl (hn := rfl) (hst := rfl) (hw := Nat.le_of_ble_eq_true rfl) (hR := ⟨⟨rfl, rfl⟩, Nat.le_of_ble_eq_true rfl, Nat.le_of_ble_eq_true rfl⟩) (hnc := ⟨Nat.zero_le _, Nat.zero_le _⟩) (fun r_57 y_57 h_57 => ?_)
    obtain ⟨e_57, ey_57⟩ := h_57
    obtain rfl : r_57 = 0 := e_57
    exact rm_zret hc dX9_isPart_59 rfl (Or.inr ⟨rfl, pp, PartNo.a hpl (fun h => absurd h (by omega)), by rw [ey_57, up_n _ _ (by omega)]; exact hp1, by rw [ey_57]; exact up_s _ _ _ _, by rw [ey_57]; exact hmp1.u15 (by omega)⟩)

set_option maxHeartbeats 4000000 in
set_option maxRecDepth 100000 in
theorem c_X9_isText {l : Launch} {D : va_G} {cy : Nat → ClassId} {ad : Ads} (hI : IJ ad) (x : Mem) (x0 xt : Mem) {tl : Nat} (hT : TXR xt x0 tl) (hM : MT x0 x) : Cti l yX9_isText cX9_isText 2 (some .boolean) rm_X9_isText D cy ad [.ref (ad 15 14 0)] x (fun r y => MT x0 y ∧ ((r = 1 ∧ (∃ T st, TextOk xt y tl T st ∧ y 15 5 = nI T) ∧ ∃ d, d ≤ 2 ∧ stA xt tl = nI (5 + d)) ∨ (r = 0 ∧ ∃ q, TextNo xt tl q ∧ y 15 3 = nI q ∧ y 15 4 = flg q tl))) := by
  have h60 : tl ≤ 60 := hT.1
  refine rm_entry (Qc := Qi D cy ad (fun r y => MT x0 y ∧ ((r = 1 ∧ (∃ T st, TextOk xt y tl T st ∧ y 15 5 = nI T) ∧ ∃ d, d ≤ 2 ∧ stA xt tl = nI (5 + d)) ∨ (r = 0 ∧ ∃ q, TextNo xt tl q ∧ y 15 3 = nI q ∧ y 15 4 = flg q tl)))) hI (by decide) (Nat.le_of_ble_eq_true rfl) ?_
  intro p e s m args below meth c hc
  show RM _ _ _ _ _ _ _ _ _ _ _ _ _ _ _ _ _ [(0, .ref (ad 15 14 0))] []
  refine rm_aload_n hc dX9_isText_0 rfl rfl ?_
  refine rm_iconst (v := 0) hc dX9_isText_1 (by decide) ?_
  refine rm_put hc dX9_isText_2 fl_X9_117 dm_14 rfl (Nat.le_of_ble_eq_true rfl) ft_9_7 rfl rfl so_14_7 (rm_nm (fun x_1 ex_1 => ?_))
  refine rm_aload_n hc dX9_isText_5 rfl rfl ?_
  refine rm_iconst (v := 0) hc dX9_isText_6 (by decide) ?_
  refine rm_put hc dX9_isText_7 fl_X9_131 dm_14 rfl (Nat.le_of_ble_eq_true rfl) ft_9_10 rfl rfl so_14_10 (rm_nm (fun x_2 ex_2 => ?_))
  refine rm_aload_n hc dX9_isText_10 rfl rfl ?_
  refine rm_iconst (v := 0) hc dX9_isText_11 (by decide) ?_
  refine rm_put hc dX9_isText_12 fl_X9_120 dm_14 rfl (Nat.le_of_ble_eq_true rfl) ft_9_8 rfl rfl so_14_8 (rm_nm (fun x_3 ex_3 => ?_))
  refine rm_iconst (v := 1) hc dX9_isText_15 (by decide) ?_
  refine rm_istore_n (ls' := [(0, .ref (ad 15 14 0)), (1, .int 1)]) hc dX9_isText_16 rfl (by decide) rfl ?_
  have key17 : ∀ (f pp tq : Nat) (st : Nat → Nat) (zm : Mem), tl + 1 ≤ pp + f → pp ≤ tl → MT x0 zm → zm 15 3 = nI pp → zm 15 5 = nI tq → TextIn xt zm tl tq pp st → stA xt pp = 0 → RM p l e rm_X9_isText s m args below meth c 2 (AA ad s.heap.size) (GG D cy ad zm) 0 0 (QQ (Qi D cy ad (fun r y => MT x0 y ∧ ((r = 1 ∧ (∃ T st, TextOk xt y tl T st ∧ y 15 5 = nI T) ∧ ∃ d, d ≤ 2 ∧ stA xt tl = nI (5 + d)) ∨ (r = 0 ∧ ∃ q, TextNo xt tl q ∧ y 15 3 = nI q ∧ y 15 4 = flg q tl)))) below args s ad) 17 [(0, .ref (ad 15 14 0)), (1, .int 1)] [] := by
    intro f
    induction f with
    | zero =>
      intro pp tq st zm h1 h2
      exact absurd h1 (by omega)
    | succ f ih =>
      intro pp tq st zm hf hpl hMz hpz htz hin hst
      have h3 : 3 * tq ≤ pp := hin.2.2.1
      refine rm_iload_n hc dX9_isText_17 rfl rfl ?_
      refine rm_if_eq (tgt := 70) hc dX9_isText_18 (by decide) (fun h => absurd h (by decide)) (fun _ => ?_)
      refine rm_aload_n hc dX9_isText_21 rfl rfl ?_
      refine rm_calliV (As := []) (rest := []) hc dX9_isText_22 (c_X9_isPart hI zm x0 xt (pp := pp) (tl := tl) (tq := tq) hT hMz hpz (by omega) htz (by omega)) mv_X9_140 dm_14 rfl rfl (hn := rfl) (hst := rfl) (hw := Nat.le_of_ble_eq_true rfl) (hR := ⟨⟨rfl, rfl⟩, Nat.le_of_ble_eq_true rfl, Nat.le_of_ble_eq_true rfl⟩) (hnc := ⟨Nat.zero_le _, Nat.zero_le _⟩) (fun r_5 y_5 h_5 => ?_)
      rcases h_5 with ⟨hr_5, q, hPo, hTEq, hpq, hMPq⟩ | ⟨hr_5, q, hPn, hpq, hfq, hMPq⟩
      · --
        obtain rfl : r_5 = 1 := hr_5
        refine rm_if_ne (tgt := 30) hc dX9_isText_25 (by decide) (fun _ => ?_) (fun h => absurd h (by decide))
        refine rm_aload_n hc dX9_isText_30 rfl rfl ?_
        refine rm_dup hc dX9_isText_31 rfl ?_
        refine rm_geti hc dX9_isText_32 fl_X9_131 dm_14 rfl rfl (fun v_7 e_7 => ?_)
        obtain rfl : v_7 = (nI (tq)) := e_7.trans (by rw [hMPq 15 5 (by omega) (by omega)]; exact htz)
        refine rm_iconst (v := 1) hc dX9_isText_35 (by decide) ?_
        refine rm_iadd hc dX9_isText_36 (fun v_8 e_8 => ?_)
        obtain rfl : v_8 = (nI (tq + 1)) := e_8.trans (nadd (m := tq) (n := 1) (by omega))
        clear e_8
        refine rm_put hc dX9_isText_37 fl_X9_131 dm_14 rfl (Nat.le_of_ble_eq_true rfl) ft_9_10 rfl rfl so_14_10 (rm_nm (fun x_9 ex_9 => ?_))
        have hq2 := hPo.2.1
        have hM5 : MT x0 x_9 := by rw [ex_9]; exact (hMPq.mt hMz).u15 (by omega) _
        have hp5 : x_9 15 3 = nI q := by rw [ex_9, up_n _ _ (by omega)]; exact hpq
        have ht5 : x_9 15 5 = nI (tq + 1) := by rw [ex_9]; exact up_s _ _ _ _
        have hTE5 : TE xt y_5 tq pp q := hTEq
        have hMP5 : MP zm y_5 tq := hMPq
        have h145 : x_9 14 = y_5 14 := by rw [ex_9]; funext n; exact up_b _ _ _ (by omega)
        refine rm_aload_n hc dX9_isText_40 rfl rfl ?_
        refine rm_bipush (v := 59) hc dX9_isText_41 (by decide) ?_
        refine rm_bipush (v := 59) hc dX9_isText_43 (by decide) ?_
        refine rm_calliV (As := [.int 59, .int 59]) (rest := []) hc dX9_isText_45 (c_X9_isAt hI x_9 x0 xt (pp := q) (tl := tl) (lo := 59) (hi := 59) hT hM5 hp5 (by omega) (by omega) (by omega)) mv_X9_124 dm_14 rfl rfl (hn := rfl) (hst := rfl) (hw := Nat.le_of_ble_eq_true rfl) (hR := ⟨⟨rfl, rfl⟩, Nat.le_of_ble_eq_true rfl, Nat.le_of_ble_eq_true rfl⟩) (hnc := ⟨Nat.zero_le _, Nat.zero_le _⟩) (fun r_10 y_10 h_10 => ?_)
        obtain ⟨h_10, ey_10⟩ := h_10
        obtain rfl := ey_10.symm
        rcases h_10 with ⟨hr_10, hlt5, k, k33, k126, kc, kl, kh⟩ | ⟨hr_10, hno5⟩
        · --
          obtain rfl : r_10 = 1 := hr_10
          have h59 : codeS xt (nI q) = 59 := by rw [kc, show k = 59 by omega]; rfl
          refine rm_istore_n (ls' := [(0, .ref (ad 15 14 0)), (1, .int 1)]) hc dX9_isText_48 rfl (by decide) rfl ?_
          refine rm_aload_n hc dX9_isText_49 rfl rfl ?_
          refine rm_dup hc dX9_isText_50 rfl ?_
          refine rm_geti hc dX9_isText_51 fl_X9_117 dm_14 rfl rfl (fun v_11 e_11 => ?_)
          obtain rfl : v_11 = (nI (q)) := e_11.trans hp5
          refine rm_iload_n hc dX9_isText_54 rfl rfl ?_
          refine rm_if_eq (tgt := 62) hc dX9_isText_55 (by decide) (fun h => absurd h (by decide)) (fun _ => ?_)
          refine rm_iconst (v := 1) hc dX9_isText_58 (by decide) ?_
          refine rm_goto (tgt := 63) hc dX9_isText_59 (by decide) ?_
          refine rm_iadd hc dX9_isText_63 (fun v_13 e_13 => ?_)
          obtain rfl : v_13 = (nI (q + 1)) := e_13.trans (nadd (m := q) (n := 1) (by omega))
          clear e_13
          refine rm_put hc dX9_isText_64 fl_X9_117 dm_14 rfl (Nat.le_of_ble_eq_true rfl) ft_9_7 rfl rfl so_14_7 (rm_nm (fun x_14 ex_14 => ?_))
          refine rm_goto (tgt := 17) hc dX9_isText_67 (by decide) ?_
          obtain ⟨st', hst'⟩ := hin.n hMP5 hPo hTE5 hlt5 h59
          exact ih (q + 1) (tq + 1) st' _ (by have := hPo.1; omega) (by omega) (by rw [ex_14]; exact hM5.u15 (by omega) _) (by rw [ex_14]; exact up_s _ _ _ _) (by rw [ex_14, up_n _ _ (by omega)]; exact ht5) (hst'.up15 (by rw [ex_14, ← h145]; funext n; exact up_b _ _ _ (by omega))) (stA_59 hst hPo h59)
        · --
          obtain rfl : r_10 = 0 := hr_10
          refine rm_istore_n (ls' := [(0, .ref (ad 15 14 0)), (1, .int 0)]) hc dX9_isText_48 rfl (by decide) rfl ?_
          refine rm_aload_n hc dX9_isText_49 rfl rfl ?_
          refine rm_dup hc dX9_isText_50 rfl ?_
          refine rm_geti hc dX9_isText_51 fl_X9_117 dm_14 rfl rfl (fun v_15 e_15 => ?_)
          obtain rfl : v_15 = (nI (q)) := e_15.trans hp5
          refine rm_iload_n hc dX9_isText_54 rfl rfl ?_
          refine rm_if_eq (tgt := 62) hc dX9_isText_55 (by decide) (fun _ => ?_) (fun h => absurd (by decide) h)
          refine rm_iconst (v := 0) hc dX9_isText_62 (by decide) ?_
          refine rm_iadd hc dX9_isText_63 (fun v_17 e_17 => ?_)
          obtain rfl : v_17 = (nI (q)) := e_17.trans (nadd (m := q) (n := 0) (by omega))
          clear e_17
          refine rm_put hc dX9_isText_64 fl_X9_117 dm_14 rfl (Nat.le_of_ble_eq_true rfl) ft_9_7 rfl rfl so_14_7 (rm_nm (fun x_18 ex_18 => ?_))
          refine rm_goto (tgt := 17) hc dX9_isText_67 (by decide) ?_
          refine rm_iload_n hc dX9_isText_17 rfl rfl ?_
          refine rm_if_eq (tgt := 70) hc dX9_isText_18 (by decide) (fun _ => ?_) (fun h => absurd (by decide) h)
          refine rm_aload_n hc dX9_isText_70 rfl rfl ?_
          refine rm_aload_n hc dX9_isText_71 rfl rfl ?_
          refine rm_geti hc dX9_isText_72 fl_X9_117 dm_14 rfl rfl (fun v_20 e_20 => ?_)
          obtain rfl : v_20 = (nI (q)) := e_20.trans (by subst_vars; exact up_s _ _ _ _)
          refine rm_aload_n hc dX9_isText_75 rfl rfl ?_
          refine rm_geti hc dX9_isText_76 fl_X9_114 dm_14 rfl rfl (fun v_21 e_21 => ?_)
          obtain rfl : v_21 = (nI (tl)) := e_21.trans (hT.t (by subst_vars; exact hM5.u15 (by omega) _))
          rcases Nat.lt_or_ge q tl with z_22 | z_22
          · --
            refine rm_icmp_ge (tgt := 86) hc dX9_isText_79 (by decide) (fun h => absurd h (fun h2 => absurd ((nI_leI (a := tl) (b := q) (by omega) (by omega)).mp h2) (by omega))) (fun _ => ?_)
            refine rm_iconst (v := 1) hc dX9_isText_82 (by decide) ?_
            refine rm_goto (tgt := 87) hc dX9_isText_83 (by decide) ?_
            refine rm_put hc dX9_isText_87 fl_X9_120 dm_14 rfl (Nat.le_of_ble_eq_true rfl) ft_9_8 rfl rfl so_14_8 (rm_nm (fun x_23 ex_23 => ?_))
            have hM7 : MT x0 x_23 := by rw [ex_23, ex_18]; exact (hM5.u15 (by omega) _).u15 (by omega) _
            have hp7 : x_23 15 3 = nI q := by rw [ex_23, up_n _ _ (by omega), ex_18]; exact up_s _ _ _ _
            have ht7 : x_23 15 5 = nI (tq + 1) := by rw [ex_23, up_n _ _ (by omega), ex_18, up_n _ _ (by omega)]; exact ht5
            have h147 : x_23 14 = y_5 14 := by rw [ex_23, ex_18, ← h145]; funext n; rw [up_b _ _ _ (by omega), up_b _ _ _ (by omega)]
            refine rm_aload_n hc dX9_isText_90 rfl rfl ?_
            refine rm_geti hc dX9_isText_91 fl_X9_117 dm_14 rfl rfl (fun v_24 e_24 => ?_)
            obtain rfl : v_24 = (nI (q)) := e_24.trans hp7
            refine rm_aload_n hc dX9_isText_94 rfl rfl ?_
            refine rm_geti hc dX9_isText_95 fl_X9_114 dm_14 rfl rfl (fun v_25 e_25 => ?_)
            obtain rfl : v_25 = (nI (tl)) := e_25.trans (hT.t hM7)
            refine rm_icmp_ne (tgt := 105) hc dX9_isText_98 (by decide) (fun _ => ?_) (fun h => absurd h (fun h2 => absurd ((nI_eq (a := q) (b := tl) (by omega) (by omega)).mp h2) (by omega)))
            refine rm_iconst (v := 0) hc dX9_isText_105 (by decide) ?_
            exact rm_zret hc dX9_isText_106 rfl ⟨hM7, Or.inr ⟨rfl, q, TextNo.q hst hPo (by omega) (hno5 (by omega)), hp7, by rw [ex_23, up_s]; unfold flg; rw [if_pos (by omega)]⟩⟩
          · --
            have zz : q = tl := by omega
            refine rm_icmp_ge (tgt := 86) hc dX9_isText_79 (by decide) (fun _ => ?_) (fun h => absurd ((nI_leI (a := tl) (b := q) (by omega) (by omega)).mpr (by omega)) h)
            refine rm_iconst (v := 0) hc dX9_isText_86 (by decide) ?_
            refine rm_put hc dX9_isText_87 fl_X9_120 dm_14 rfl (Nat.le_of_ble_eq_true rfl) ft_9_8 rfl rfl so_14_8 (rm_nm (fun x_27 ex_27 => ?_))
            have hM7 : MT x0 x_27 := by rw [ex_27, ex_18]; exact (hM5.u15 (by omega) _).u15 (by omega) _
            have hp7 : x_27 15 3 = nI q := by rw [ex_27, up_n _ _ (by omega), ex_18]; exact up_s _ _ _ _
            have ht7 : x_27 15 5 = nI (tq + 1) := by rw [ex_27, up_n _ _ (by omega), ex_18, up_n _ _ (by omega)]; exact ht5
            have h147 : x_27 14 = y_5 14 := by rw [ex_27, ex_18, ← h145]; funext n; rw [up_b _ _ _ (by omega), up_b _ _ _ (by omega)]
            refine rm_aload_n hc dX9_isText_90 rfl rfl ?_
            refine rm_geti hc dX9_isText_91 fl_X9_117 dm_14 rfl rfl (fun v_28 e_28 => ?_)
            obtain rfl : v_28 = (nI (q)) := e_28.trans hp7
            refine rm_aload_n hc dX9_isText_94 rfl rfl ?_
            refine rm_geti hc dX9_isText_95 fl_X9_114 dm_14 rfl rfl (fun v_29 e_29 => ?_)
            obtain rfl : v_29 = (nI (tl)) := e_29.trans (hT.t hM7)
            refine rm_icmp_ne (tgt := 105) hc dX9_isText_98 (by decide) (fun h => absurd ((nI_eq (a := q) (b := tl) (by omega) (by omega)).mpr (by omega)) h) (fun _ => ?_)
            refine rm_iconst (v := 1) hc dX9_isText_101 (by decide) ?_
            refine rm_goto (tgt := 106) hc dX9_isText_102 (by decide) ?_
            exact rm_zret hc dX9_isText_106 rfl ⟨hM7, Or.inl ⟨rfl, by obtain ⟨st', hst'⟩ := hin.e h60 hMP5 hPo hTE5 (by omega); exact ⟨tq + 1, st', hst'.m15 h147, ht7⟩, by rw [← (show q = tl by omega)]; exact stA_ok hst hPo⟩⟩
      · --
        obtain rfl : r_5 = 0 := hr_5
        refine rm_if_ne (tgt := 30) hc dX9_isText_25 (by decide) (fun h => absurd h (by decide)) (fun _ => ?_)
        refine rm_iconst (v := 0) hc dX9_isText_28 (by decide) ?_
        exact rm_zret hc dX9_isText_29 rfl ⟨hMPq.mt hMz, Or.inr ⟨rfl, q, TextNo.p hst hPn, hpq, hfq⟩⟩
  exact key17 (tl + 1) 0 0 (fun _ => 0) _ (by omega) (by omega) (by subst_vars; exact ((hM.u15 (by omega) _).u15 (by omega) _).u15 (by omega) _) (by subst_vars; rw [up_n _ _ (by omega), up_n _ _ (by omega)]; exact up_s _ _ _ _) (by subst_vars; rw [up_n _ _ (by omega)]; exact up_s _ _ _ _) ⟨rfl, rfl, by omega, fun t ht => absurd ht (by omega)⟩ rfl
