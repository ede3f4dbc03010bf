theorem TXR.T0 {xt x : Mem} {tl : Nat} (h : TXR xt x tl) : TXR xt (T0 x) tl := by
  obtain ⟨h1, h2, h3, h4⟩ := h
  exact ⟨h1, h2, (up_n _ _ (by omega)).trans h3, h4⟩
theorem feS_b {x z : Mem} (h : ∀ a, codeS z a = codeS x a) : ∀ (f : Nat) (e : Int32) (i : Nat), feS z f e i = feS x f e i
  | 0, _, _ => rfl
  | f + 1, e, i => by
    show feS z f (expS e (codeS z (nI i))) (i + 1) = feS x f (expS e (codeS x (nI i))) (i + 1)
    rw [h, feS_b h f]
theorem glS_b {x z : Mem} (h : ∀ a, codeS z a = codeS x a) : ∀ (f : Nat) (e : Int32) (i : Nat), glS z f e i = glS x f e i
  | 0, _, _ => rfl
  | f + 1, e, i => by
    unfold glS
    rw [h, glS_b h f]
theorem mkS_b {x z : Mem} (h : ∀ a, codeS z a = codeS x a) : ∀ (f i : Nat) (v : Int32), mkS z f i v = mkS x f i v
  | 0, _, _ => rfl
  | f + 1, i, v => by
    have hd : digS z (nI i) = digS x (nI i) := by
      unfold digS
      rw [h]
    unfold mkS
    rw [hd, mkS_b h f]
theorem codeT0 {x : Mem} (a : Int32) : codeS (T0 x) a = codeS x a := code_b rfl rfl a
/-- the sign and the digit of a part -/
theorem seg_k {x0 : Mem} {tl p : Nat} (hc : ∀ i, i < tl → ∃ c : Nat, 33 ≤ c ∧ c ≤ 126 ∧ codeS x0 (nI i) = nI c) (hl : p + 1 < tl) (h : feS x0 2 0 p ≠ 8) :
    ∃ c a : Nat, codeS x0 (nI p) = nI c ∧ digS x0 (nI (p + 1)) = nI a ∧ ((c = 102 ∧ a < 4) ∨ (c = 114 ∧ a < 8) ∨ (c = 99 ∧ a < 3)) := by
  obtain ⟨c, c1, c2, c3⟩ := hc p (by omega)
  obtain ⟨d, d1, d2, d3⟩ := hc (p + 1) hl
  have h2 := feS_snoc (x := x0) (a := 1) (e := 0) (i := p)
  have h1 : feS x0 1 0 p = expS 0 (nI c) := by rw [← c3]; rfl
  rw [show (2 : Nat) = 1 + 1 from rfl, h2, d3] at h
  have key : ∀ e1 hh e2, So c e1 hh e2 → ∃ a : Nat, digS x0 (nI (p + 1)) = nI a ∧ a ≤ hh - 48 := fun e1 hh e2 hs => by
    rw [part_1 hs c3, exp_d2 hs d2] at h
    by_cases q : 48 ≤ d ∧ d ≤ hh
    · exact ⟨d - 48, dig_n d3 q.1 (by rcases hs with ⟨-, -, h, -⟩ | ⟨-, -, h, -⟩ | ⟨-, -, h, -⟩ <;> omega), by omega⟩
    · rw [if_neg q] at h; exact absurd rfl h
  have ec := exp_0 c2
  by_cases q1 : c = 102
  · obtain ⟨a, a1, a2⟩ := key 1 51 4 (Or.inl ⟨q1, rfl, rfl, rfl⟩)
    exact ⟨c, a, c3, a1, Or.inl ⟨q1, by omega⟩⟩
  · by_cases q2 : c = 114
    · obtain ⟨a, a1, a2⟩ := key 2 55 4 (Or.inr (Or.inl ⟨q2, rfl, rfl, rfl⟩))
      exact ⟨c, a, c3, a1, Or.inr (Or.inl ⟨q2, by omega⟩)⟩
    · by_cases q3 : c = 99
      · obtain ⟨a, a1, a2⟩ := key 3 50 7 (Or.inr (Or.inr ⟨q3, rfl, rfl, rfl⟩))
        exact ⟨c, a, c3, a1, Or.inr (Or.inr ⟨q3, by omega⟩)⟩
      · rw [h1, ec, if_neg q3, if_neg q1, if_neg q2] at h
        exact absurd (show expS 8 (nI d) = 8 by unfold expS; simp) h
theorem TXR.k {x0 xm : Mem} {tl : Nat} (h : TXR x0 xm tl) (i : Nat) (hi : i < tl) : ∃ c : Nat, 33 ≤ c ∧ c ≤ 126 ∧ codeS x0 (nI i) = nI c := by
  obtain ⟨c, a1, a2, a3, a4⟩ := h.c (MT.rf xm) hi
  exact ⟨c, a1, a2, a4⟩
theorem PartOk.k {x0 xm : Mem} {tl p q : Nat} (h : PartOk x0 tl p q) (hT : TXR x0 xm tl) : ∃ c a : Nat, codeS x0 (nI p) = nI c ∧ digS x0 (nI (p + 1)) = nI a ∧ ((c = 102 ∧ a < 4) ∨ (c = 114 ∧ a < 8) ∨ (c = 99 ∧ a < 3)) := by
  obtain ⟨h1, h2, ⟨d, h3, h4, -⟩, -⟩ := h
  refine seg_k hT.k (by omega) fun q8 => ?_
  rw [show q - p = 2 + (q - p - 2) by omega, feS_app, q8, feS_8] at h4
  exact nI_8 (by omega) h4.symm
/-- a part is done, by the model -/
def pdM (x0 z : Mem) (p q mm : Nat) : Int32 × Mem :=
  if codeS x0 (nI p) = 102 then (if z 10 (16 + 4 * (digS x0 (nI (p + 1))).toNatClampNeg) = 0 then (0, z) else (1, (prsS z 10 (digS x0 (nI (p + 1))).toNatClampNeg (mskS x0 p q) mm).2))
  else if codeS x0 (nI p) = 114 then (if (digS x0 (nI (p + 1))).toNatClampNeg < (z 10 5).toNatClampNeg then (1, (agM z (digS x0 (nI (p + 1))).toNatClampNeg (mskS x0 p q) mm).2) else (0, z))
  else (1, up z 10 (30 + 22 * (digS x0 (nI (p + 1))).toNatClampNeg) 0)
theorem pd_f0 {x0 z : Mem} {p q mm a : Nat} (hc : codeS x0 (nI p) = 102) (hd : digS x0 (nI (p + 1)) = nI a) (ha : a < 8) (hb : z 10 (16 + 4 * a) = 0) : pdM x0 z p q mm = (0, z) := by
  unfold pdM
  rw [if_pos hc, hd, nI_clamp (by omega), if_pos hb]
theorem pd_f1 {x0 z : Mem} {p q mm a : Nat} (hc : codeS x0 (nI p) = 102) (hd : digS x0 (nI (p + 1)) = nI a) (ha : a < 8) (hb : ¬ z 10 (16 + 4 * a) = 0) : pdM x0 z p q mm = (1, (prsS z 10 a (mskS x0 p q) mm).2) := by
  unfold pdM
  rw [if_pos hc, hd, nI_clamp (by omega), if_neg hb]
theorem pd_r {x0 z : Mem} {p q mm a nr : Nat} (hc : codeS x0 (nI p) = 114) (hd : digS x0 (nI (p + 1)) = nI a) (ha : a < 8) (hr : z 10 5 = nI nr) (h8 : nr ≤ 8) : pdM x0 z p q mm = if a < nr then (1, (agM z a (mskS x0 p q) mm).2) else (0, z) := by
  unfold pdM
  rw [if_neg (by rw [hc]; decide), if_pos hc, hd, nI_clamp (by omega), hr, nI_clamp (by omega)]
theorem pd_c {x0 z : Mem} {p q mm a : Nat} (hc : codeS x0 (nI p) = 99) (hd : digS x0 (nI (p + 1)) = nI a) (ha : a < 8) : pdM x0 z p q mm = (1, up z 10 (30 + 22 * a) 0) := by
  unfold pdM
  rw [if_neg (by rw [hc]; decide), if_neg (by rw [hc]; decide), hd, nI_clamp (by omega)]
/-- the state of the model, in order -/
def IV (v : Nat → Int32) (mm : Nat) : Prop := RS v ∧ RF v ∧ v 1 = nI mm ∧ mm ≤ 500 ∧ ∃ nr : Nat, nr ≤ 8 ∧ v 5 = nI nr
theorem IV.prs {x : Mem} {k j mm : Nat} {msk : Int32} (h : IV (x k) mm) (hj : j < 4) : IV ((prsS x k j msk mm).2 k) mm := by
  obtain ⟨h1, h2, h3, h4, nr, h5, h6⟩ := h
  exact ⟨h1.prs hj h4, h2.prs hj, prsS_1.trans h3, h4, prsS_5 h6 h5⟩
theorem agM_lo {x : Mem} {ii n mm : Nat} {msk : Int32} (hn : n < 30) (h3 : n ≠ 3) (h4 : n ≠ 4) : (agM x ii msk mm).2 10 n = x 10 n := by
  show up (up _ 10 3 _) 10 4 _ 10 n = _
  rw [up_n _ _ h4, up_n _ _ h3, sendS_lo hn]
theorem agM_b {x : Mem} {ii b n mm : Nat} {msk : Int32} (hb : b ≠ 10) : (agM x ii msk mm).2 b n = x b n := by
  show up (up _ 10 3 _) 10 4 _ b n = _
  rw [up_b _ _ _ hb, up_b _ _ _ hb, sendS_b hb]
theorem rs_agM {x : Mem} {ii mm : Nat} {msk : Int32} (h : RS (x 10)) (hm : mm ≤ 500) : RS ((agM x ii msk mm).2 10) := by
  show RS (up (up _ 10 3 _) 10 4 _ 10)
  exact RS.up (RS.up (RS.snd h hm 3 (by omega)) (fun d s i _ _ _ => by omega)) (fun d s i _ _ _ => by omega)
theorem IV.ag {x : Mem} {ii mm : Nat} {msk : Int32} (h : IV (x 10) mm) : IV ((agM x ii msk mm).2 10) mm := by
  obtain ⟨h1, h2, h3, h4, nr, h5, h6⟩ := h
  refine ⟨rs_agM h1 h4, fun j hj => ?_, (agM_lo (by omega) (by omega) (by omega)).trans h3, h4, nr, h5, (agM_lo (by omega) (by omega) (by omega)).trans h6⟩
  obtain ⟨a, b, ha, hb, e1, e2⟩ := h2 j hj
  exact ⟨a, b, ha, hb, (agM_lo (by omega) (by omega) (by omega)).trans e1, (agM_lo (by omega) (by omega) (by omega)).trans e2⟩
theorem IV.up {x : Mem} {a f mm : Nat} {v : Int32} (h : IV (x 10) mm) (ha : a < 3) (hf : f < 6) : IV (up x 10 (30 + f + 22 * a) v 10) mm := by
  obtain ⟨h1, h2, h3, h4, nr, h5, h6⟩ := h
  refine ⟨h1.up (fun d s i hd hs hi => dp_ne f ha hd hs hi hf), h2.up (fun j hj => by omega), (up_n _ _ (by omega)).trans h3, h4, nr, h5, (up_n _ _ (by omega)).trans h6⟩
theorem IV.pd {x0 xm z : Mem} {tl p q mm : Nat} (h : IV (z 10) mm) (hP : PartOk x0 tl p q) (hT : TXR x0 xm tl) : IV ((pdM x0 z p q mm).2 10) mm := by
  obtain ⟨c, a, h1, h2, h3⟩ := hP.k hT
  rcases h3 with ⟨rfl, h3⟩ | ⟨rfl, h3⟩ | ⟨rfl, h3⟩
  · by_cases hb : z 10 (16 + 4 * a) = 0
    · rw [pd_f0 h1 h2 (by omega) hb]; exact h
    · rw [pd_f1 h1 h2 (by omega) hb]; exact h.prs h3
  · obtain ⟨nr, h5, h6⟩ := h.2.2.2.2
    rw [pd_r h1 h2 (by omega) h6 h5]
    split
    · exact h.ag
    · exact h
  · rw [pd_c h1 h2 (by omega)]; exact h.up (f := 0) h3 (by omega)
/-- alike but for what the text's reading and looking leave -/
def MX (u y : Mem) : Prop := ∀ b n, b ≠ 14 → ¬ (b = 15 ∧ 3 ≤ n ∧ n ≤ 7) → y b n = u b n
theorem MX.rf (u : Mem) : MX u u := fun _ _ _ _ => rfl
theorem MX.tr {u v w : Mem} (h1 : MX u v) (h2 : MX v w) : MX u w := fun b n h h' => (h2 b n h h').trans (h1 b n h h')
theorem MX.m7 {u y : Mem} (h : M7 u y) : MX u y := fun b n _ h' => h b n (fun q => h' ⟨q.1, by omega⟩)
theorem MX.mt {u y : Mem} (h : MT u y) : MX u y := fun b n h1 h' => h b n h1 (fun q => h' ⟨q.1, by omega⟩)
theorem MX.blk {u y : Mem} (h : MX u y) {b : Nat} (hb : b ≠ 15) (h1 : b ≠ 14) : y b = u b := funext fun n => h b n h1 (fun q => hb q.1)
theorem MX.upq {u y : Mem} (h : MX u y) {b n : Nat} {v v' : Int32} (hv : v' = v) : MX (up u b n v) (up y b n v') := fun b' n' h1 h2 => by
  subst hv
  by_cases hq : b' = b ∧ n' = n
  · rw [hq.1, hq.2, up_s, up_s]
  · rw [up_ne _ _ hq, up_ne _ _ hq]; exact h b' n' h1 h2
theorem MX.prs {u y : Mem} (h : MX u y) {j mm : Nat} {msk : Int32} : MX (prsS u 10 j msk mm).2 (prsS y 10 j msk mm).2 := fun b n h1 h2 => by
  by_cases hb : b = 10
  · subst hb
    exact congrFun (prs_blk (h.blk (by omega) (by omega))).1 n
  · rw [prsS_b hb, prsS_b hb]; exact h b n h1 h2
theorem MX.ag {u y : Mem} (h : MX u y) {ii mm : Nat} {msk : Int32} : MX (agM u ii msk mm).2 (agM y ii msk mm).2 := fun b n h1 h2 => by
  by_cases hb : b = 10
  · subst hb
    have e := h.blk (b := 10) (by omega) (by omega)
    have es := snd_blk (x := u) (y := y) (k := 10) (k2 := 10) (mm := mm) (d := 3) (msk := msk) (num := u 10 (6 + ii)) e
    unfold agM
    rw [e]
    exact congrFun (up_blk (up_blk es.1 (by rw [es.1])) (by rw [es.1, es.2])) n
  · rw [agM_b hb, agM_b hb]; exact h b n h1 h2
theorem MX.pd {u y x0 : Mem} (h : MX u y) {p q mm : Nat} : MX (pdM x0 u p q mm).2 (pdM x0 y p q mm).2 ∧ (pdM x0 y p q mm).1 = (pdM x0 u p q mm).1 := by
  have e := h.blk (b := 10) (by omega) (by omega)
  unfold pdM
  rw [e]
  split
  · split
    · exact ⟨h, rfl⟩
    · exact ⟨h.prs, rfl⟩
  · split
    · split
      · exact ⟨h.ag, rfl⟩
      · exact ⟨h, rfl⟩
    · exact ⟨h.upq rfl, rfl⟩
theorem M7.ag {u y : Mem} (h : M7 u y) {ii mm : Nat} {msk : Int32} : M7 (agM u ii msk mm).2 (agM y ii msk mm).2 := fun b n hh => by
  by_cases hb : b = 10
  · subst hb
    have e := h.blk (b := 10) (by omega)
    have es := snd_blk (x := u) (y := y) (k := 10) (k2 := 10) (mm := mm) (d := 3) (msk := msk) (num := u 10 (6 + ii)) e
    unfold agM
    rw [e]
    exact congrFun (up_blk (up_blk es.1 (by rw [es.1])) (by rw [es.1, es.2])) n
  · rw [agM_b hb, agM_b hb]; exact h b n hh
theorem M7.pd {u y x0 : Mem} (h : M7 u y) {p q mm : Nat} : M7 (pdM x0 u p q mm).2 (pdM x0 y p q mm).2 ∧ (pdM x0 y p q mm).1 = (pdM x0 u p q mm).1 := by
  have e := h.blk (b := 10) (by omega)
  unfold pdM
  rw [e]
  split
  · split
    · exact ⟨h, rfl⟩
    · exact ⟨h.prs (by omega), rfl⟩
  · split
    · split
      · exact ⟨h.ag, rfl⟩
      · exact ⟨h, rfl⟩
    · exact ⟨h.upq rfl, rfl⟩
def plM (mm : Nat) (x0 : Mem) (st : Nat → Nat) : Nat → Mem → Nat → Nat × Mem
  | 0, z, t => (t, z)
  | f + 1, z, t => if (pdM x0 z (st t) (st (t + 1) - 1) mm).1 = 0 then (t, (pdM x0 z (st t) (st (t + 1) - 1) mm).2) else plM mm x0 st f (pdM x0 z (st t) (st (t + 1) - 1) mm).2 (t + 1)
theorem plM_0 {mm f t : Nat} {x0 z : Mem} {st : Nat → Nat} (h : (pdM x0 z (st t) (st (t + 1) - 1) mm).1 = 0) : plM mm x0 st (f + 1) z t = (t, (pdM x0 z (st t) (st (t + 1) - 1) mm).2) := by simp [plM, h]
theorem plM_y {mm f t : Nat} {x0 z : Mem} {st : Nat → Nat} (h : ¬ (pdM x0 z (st t) (st (t + 1) - 1) mm).1 = 0) : plM mm x0 st (f + 1) z t = plM mm x0 st f (pdM x0 z (st t) (st (t + 1) - 1) mm).2 (t + 1) := by simp [plM, h]
theorem MX.pl {x0 : Mem} {mm : Nat} {st : Nat → Nat} : ∀ (f : Nat) {u y : Mem} (t : Nat), MX u y → MX (plM mm x0 st f u t).2 (plM mm x0 st f y t).2 ∧ (plM mm x0 st f y t).1 = (plM mm x0 st f u t).1
  | 0, _, _, _, h => ⟨h, rfl⟩
  | f + 1, u, y, t, h => by
    have hp := h.pd (x0 := x0) (p := st t) (q := st (t + 1) - 1) (mm := mm)
    unfold plM
    rw [hp.2]
    split
    · exact ⟨hp.1, rfl⟩
    · exact MX.pl f (t + 1) hp.1
theorem pd_b {x0 z : Mem} {p q mm b n : Nat} (hb : b ≠ 10) : (pdM x0 z p q mm).2 b n = z b n := by
  unfold pdM
  split
  · split
    · rfl
    · exact prsS_b hb
  · split
    · split
      · exact agM_b hb
      · rfl
    · exact up_b _ _ _ hb
theorem pl_b {x0 : Mem} {mm : Nat} {st : Nat → Nat} {b n : Nat} (hb : b ≠ 10) : ∀ (f : Nat) (z : Mem) (t : Nat), (plM mm x0 st f z t).2 b n = z b n
  | 0, _, _ => rfl
  | f + 1, z, t => by
    unfold plM
    split
    · exact pd_b hb
    · exact (pl_b hb f _ _).trans (pd_b hb)
theorem svM_14 {x : Mem} {kq b n : Nat} (h1 : b ≠ 12) (h2 : ¬ (b = 15 ∧ n = 0)) : svM x kq b n = x b n := by
  unfold svM
  split
  · rw [up_ne _ _ h2, cpS_b h1, up_ne _ _ h2]
    unfold shP
    rw [if_neg (by omega)]
  · rw [up_ne _ _ h2, cpS_b h1]
theorem svM_mx {u y : Mem} {kq : Nat} (h : MX u y) : MX (svM u kq) (svM y kq) := fun b n h1 h2 => by
  have e10 := h.blk (b := 10) (by omega) (by omega)
  have e12 := h.blk (b := 12) (by omega) (by omega)
  by_cases hb : b = 12
  · subst hb
    unfold svM cpS shP up
    simp only [e10, e12]
    split <;> simp [congrFun e12 n]
  · by_cases h0 : b = 15 ∧ n = 0
    · rw [h0.1, h0.2]
      unfold svM
      split
      · rw [up_s, up_s]
      · rw [up_s, up_s]
    · rw [svM_14 hb h0, svM_14 hb h0]
      exact h b n h1 h2
theorem TextOk.cg {x x' w : Mem} {tl T : Nat} {st : Nat → Nat} (h : TextOk x' w tl T st) (hc : ∀ a, codeS x' a = codeS x a) : TextOk x w tl T st := by
  obtain ⟨h1, h2, h3, h4⟩ := h
  have hd : ∀ a, digS x' a = digS x a := fun a => by
    unfold digS
    rw [hc]
  refine ⟨h1, h2, h3, fun t ht => ?_⟩
  obtain ⟨a1, a2, a3, a4, a5⟩ := h4 t ht
  refine ⟨?_, a2, a3, fun q => (hc _).symm.trans (a4 q), ?_⟩
  · obtain ⟨b1, b2, ⟨d, b3, b4, b5⟩, b6⟩ := a1
    refine ⟨b1, b2, ⟨d, b3, (feS_b hc _ _ _).symm.trans b4, fun q => ?_⟩, fun n n1 n2 => by rw [← hc]; exact b6 n n1 n2⟩
    obtain ⟨c, c1, c2, c3, c4⟩ := b5 q
    exact ⟨c, c1, c2, (hc _).symm.trans c3, c4⟩
  · obtain ⟨b1, b2, b3⟩ := a5
    refine ⟨b1.trans (hc _), b2.trans (hd _), ?_⟩
    rw [← hc]
    refine b3.imp id fun h => h.trans ?_
    unfold mskS
    exact mkS_b hc _ _ _
theorem TextNo.cg {x x' : Mem} {tl q : Nat} (h : TextNo x' tl q) (hc : ∀ a, codeS x' a = codeS x a) : TextNo x tl q := by
  have hs : ∀ n, stA x' n = stA x n := fun n => feS_b hc _ _ _
  obtain ⟨h1, h2, h3, h4⟩ := h
  refine ⟨h1, by rw [← hs]; exact h2, fun q => by rw [← hs, ← hc]; exact h3 q, fun q => ?_⟩
  obtain ⟨e, e1, e2⟩ := h4 q
  exact ⟨e, e1, (hs _).symm.trans e2⟩
theorem blk_up {x : Mem} {b n k : Nat} {v : Int32} (h : k ≠ b) : up x b n v k = x k := funext fun m => up_b _ _ _ h
theorem MX.t2 {x y : Mem} {v : Int32} (h : MX (T0 x) y) : MX x (up (up y 15 2 v) 15 2 (x 15 2)) := fun b n h1 h2 => by
  by_cases hq : b = 15 ∧ n = 2
  · rw [hq.1, hq.2, up_s]
  · rw [up_ne _ _ hq, up_ne _ _ hq]
    exact (h b n h1 h2).trans (up_ne _ _ hq)
set_option maxHeartbeats 4000000 in
set_option maxRecDepth 100000 in
theorem c_X9_firstError {l : Launch} {D : va_G} {cy : Nat → ClassId} {ad : Ads} (hI : IJ ad) (x : Mem) (xt : Mem) {tl : Nat} (hT : TXR xt x tl) : Cti l yX9_firstError cX9_firstError 2 (some .int) rm_X9_firstError D cy ad [.ref (ad 15 14 0)] x (fun r y => r = nI (glS xt tl 0 0) ∧ MT (T0 x) y) := by
  refine rm_entry (Qc := Qi D cy ad (fun r y => r = nI (glS xt tl 0 0) ∧ MT (T0 x) y)) hI (by decide) (Nat.le_of_ble_eq_true rfl) ?_
  intro p e s m args below meth c hc
  show RM _ _ _ _ _ _ _ _ _ _ _ _ _ _ _ _ _ [(0, .ref (ad 15 14 0))] []
  refine rm_aload_n hc dX9_firstError_0 rfl rfl ?_
  refine rm_iconst (v := 0) hc dX9_firstError_1 (by decide) ?_
  refine rm_put hc dX9_firstError_2 fl_X9_25 dm_14 rfl (Nat.le_of_ble_eq_true rfl) ft_9_6 rfl rfl so_14_6 (rm_nm (fun x_1 ex_1 => ?_))
  refine rm_aload_n hc dX9_firstError_5 rfl rfl ?_
  have hTT : TXR xt x_1 tl := by rw [ex_1]; exact hT.T0
  refine rm_calliV (As := []) (rest := []) hc dX9_firstError_6 (c_X9_isText hI x_1 x_1 xt (tl := tl) hTT (MT.rf _)) mv_X9_143 dm_14 rfl rfl (hn := rfl) (hst := rfl) (hw := Nat.le_of_ble_eq_true rfl) (hR := ⟨⟨rfl, rfl⟩, Nat.le_of_ble_eq_true rfl, Nat.le_of_ble_eq_true rfl⟩) (hnc := ⟨Nat.zero_le _, Nat.zero_le _⟩) (fun r_2 y_2 h_2 => ?_)
  obtain ⟨hMt, ⟨hr_2, -, d, hd2, hsd⟩ | ⟨hr_2, q, hTN, hpq, hfq⟩⟩ := h_2
  · --
    obtain rfl : r_2 = 1 := hr_2
    have hgl : glS xt tl 0 0 = tl := gl_end (by rw [hsd]; exact nI_8 (by omega))
    refine rm_istore_n (ls' := [(0, .ref (ad 15 14 0)), (1, .int 1)]) hc dX9_firstError_9 rfl (by decide) rfl ?_
    refine rm_iload_n hc dX9_firstError_10 rfl rfl ?_
    refine rm_if_ne (tgt := 28) hc dX9_firstError_11 (by decide) (fun _ => ?_) (fun h => absurd h (by decide))
    refine rm_aload_n hc dX9_firstError_28 rfl rfl ?_
    refine rm_geti hc dX9_firstError_29 fl_X9_114 dm_14 rfl rfl (fun v_4 e_4 => ?_)
    obtain rfl : v_4 = nI tl := e_4.trans (hTT.t hMt)
    exact rm_iret hc dX9_firstError_32 ⟨by rw [hgl], by rw [ex_1] at hMt; exact hMt⟩
  · --
    obtain rfl : r_2 = 0 := hr_2
    rcases Nat.lt_or_ge q tl with hlt | hge
    · --
      have hgl : glS xt tl 0 0 = q := gl_fault hTN.2.1 hlt (hTN.2.2.1 hlt)
      have hfq1 : y_2 15 4 = 1 := hfq.trans (if_pos hlt)
      refine rm_istore_n (ls' := [(0, .ref (ad 15 14 0)), (1, .int 0)]) hc dX9_firstError_9 rfl (by decide) rfl ?_
      refine rm_iload_n hc dX9_firstError_10 rfl rfl ?_
      refine rm_if_ne (tgt := 28) hc dX9_firstError_11 (by decide) (fun h => absurd h (by decide)) (fun _ => ?_)
      refine rm_aload_n hc dX9_firstError_14 rfl rfl ?_
      refine rm_geti hc dX9_firstError_15 fl_X9_120 dm_14 rfl rfl (fun v_6 e_6 => ?_)
      obtain rfl : v_6 = 1 := e_6.trans hfq1
      refine rm_if_eq (tgt := 28) hc dX9_firstError_18 (by decide) (fun h => absurd h (by decide)) (fun _ => ?_)
      refine rm_aload_n hc dX9_firstError_21 rfl rfl ?_
      refine rm_geti hc dX9_firstError_22 fl_X9_117 dm_14 rfl rfl (fun v_8 e_8 => ?_)
      obtain rfl : v_8 = (nI (q)) := e_8.trans hpq
      refine rm_goto (tgt := 32) hc dX9_firstError_25 (by decide) ?_
      exact rm_iret hc dX9_firstError_32 ⟨by rw [hgl], by rw [ex_1] at hMt; exact hMt⟩
    · --
      have hq := hTN.1
      obtain rfl : q = tl := by omega
      have hgl : glS xt q 0 0 = q := gl_end hTN.2.1
      have hfq1 : y_2 15 4 = 0 := hfq.trans (if_neg (by omega))
      refine rm_istore_n (ls' := [(0, .ref (ad 15 14 0)), (1, .int 0)]) hc dX9_firstError_9 rfl (by decide) rfl ?_
      refine rm_iload_n hc dX9_firstError_10 rfl rfl ?_
      refine rm_if_ne (tgt := 28) hc dX9_firstError_11 (by decide) (fun h => absurd h (by decide)) (fun _ => ?_)
      refine rm_aload_n hc dX9_firstError_14 rfl rfl ?_
      refine rm_geti hc dX9_firstError_15 fl_X9_120 dm_14 rfl rfl (fun v_10 e_10 => ?_)
      obtain rfl : v_10 = 0 := e_10.trans hfq1
      refine rm_if_eq (tgt := 28) hc dX9_firstError_18 (by decide) (fun _ => ?_) (fun h => absurd (by decide) h)
      refine rm_aload_n hc dX9_firstError_28 rfl rfl ?_
      refine rm_geti hc dX9_firstError_29 fl_X9_114 dm_14 rfl rfl (fun v_12 e_12 => ?_)
      obtain rfl : v_12 = nI q := e_12.trans (hTT.t hMt)
      exact rm_iret hc dX9_firstError_32 ⟨by rw [hgl], by rw [ex_1] at hMt; exact hMt⟩

set_option maxHeartbeats 4000000 in
set_option maxRecDepth 100000 in
theorem c_X9_does_102 {l : Launch} {D : va_G} {cy : Nat → ClassId} {ad : Ads} (hI : IJ ad) (x : Mem) (xt xm : Mem) {tl t p0 q a : Nat} (ht20 : t < 20) (hT : TXR xt xm tl) (hTE : TE xt x t p0 q) (hd : digS xt (nI (p0 + 1)) = nI a) (mm : Nat) (hIV : IV (x 10) mm) (ha : a < 4) (hc0 : codeS xt (nI p0) = 102) : Cti l yX9_does cX9_does 4 (some .boolean) rm_X9_does D cy ad [.ref (ad 15 14 0), .int (nI (t))] x (fun r y => r = (pdM xt x p0 q mm).1 ∧ M7 (pdM xt x p0 q mm).2 y) := by
  obtain ⟨hRS, hRF, hw, hmm, nr, hr8, hnr⟩ := hIV
  have ht1 : x 14 (1 + 3 * t) = nI a := hTE.2.1.trans hd
  refine rm_entry (Qc := Qi D cy ad (fun r y => r = (pdM xt x p0 q mm).1 ∧ M7 (pdM xt x p0 q mm).2 y)) hI (by decide) (Nat.le_of_ble_eq_true rfl) ?_
  intro p e s m args below meth c hc
  show RM _ _ _ _ _ _ _ _ _ _ _ _ _ _ _ _ _ [(0, .ref (ad 15 14 0)), (1, .int (nI (t)))] []
  refine rm_aload_n hc dX9_does_0 rfl rfl ?_
  refine rm_get hc dX9_does_1 fl_X9_22 dm_14 rfl rfl ?_
  refine rm_iconst (v := 3) hc dX9_does_4 (by decide) ?_
  refine rm_iload_n hc dX9_does_5 rfl rfl ?_
  refine rm_imul hc dX9_does_6 (fun v_1 e_1 => ?_)
  obtain rfl : v_1 = (nI (3 * t)) := e_1.trans (nmul (m := 3) (n := t) (by omega))
  clear e_1
  refine rm_iconst (v := 1) hc dX9_does_7 (by decide) ?_
  refine rm_iadd hc dX9_does_8 (fun v_2 e_2 => ?_)
  obtain rfl : v_2 = (nI (1 + 3 * t)) := e_2.trans (nadd (m := 3 * t) (n := 1) (by omega))
  clear e_2
  refine rm_iald (i := 1 + 3 * t) hc dX9_does_9 dm_18 rfl (by omega) (by decide) rfl (fun v_3 e_3 => ?_)
  obtain rfl : v_3 = (nI (a)) := e_3.trans ht1
  refine rm_istore_n (ls' := [(0, .ref (ad 15 14 0)), (1, .int (nI (t))), (2, .int (nI (a)))]) hc dX9_does_10 rfl (by decide) rfl ?_
  refine rm_aload_n hc dX9_does_11 rfl rfl ?_
  refine rm_get hc dX9_does_12 fl_X9_22 dm_14 rfl rfl ?_
  refine rm_iconst (v := 3) hc dX9_does_15 (by decide) ?_
  refine rm_iload_n hc dX9_does_16 rfl rfl ?_
  refine rm_imul hc dX9_does_17 (fun v_4 e_4 => ?_)
  obtain rfl : v_4 = (nI (3 * t)) := e_4.trans (nmul (m := 3) (n := t) (by omega))
  clear e_4
  refine rm_iconst (v := 2) hc dX9_does_18 (by decide) ?_
  refine rm_iadd hc dX9_does_19 (fun v_5 e_5 => ?_)
  obtain rfl : v_5 = (nI (2 + 3 * t)) := e_5.trans (nadd (m := 3 * t) (n := 2) (by omega))
  clear e_5
  refine rm_iald (i := 2 + 3 * t) hc dX9_does_20 dm_18 rfl (by omega) (by decide) rfl (fun v_6 e_6 => ?_)
  have hmk : v_6 = mskS xt p0 q := by rw [e_6]; exact hTE.2.2.resolve_left (by rw [hc0]; decide)
  refine rm_istore_n (ls' := [(0, .ref (ad 15 14 0)), (1, .int (nI (t))), (2, .int (nI (a))), (3, .int v_6)]) hc dX9_does_21 rfl (by decide) rfl ?_
  refine rm_aload_n hc dX9_does_22 rfl rfl ?_
  refine rm_get hc dX9_does_23 fl_X9_22 dm_14 rfl rfl ?_
  refine rm_iconst (v := 3) hc dX9_does_26 (by decide) ?_
  refine rm_iload_n hc dX9_does_27 rfl rfl ?_
  refine rm_imul hc dX9_does_28 (fun v_7 e_7 => ?_)
  obtain rfl : v_7 = (nI (3 * t)) := e_7.trans (nmul (m := 3) (n := t) (by omega))
  clear e_7
  refine rm_iald (i := 3 * t) hc dX9_does_29 dm_18 rfl (by omega) (by decide) rfl (fun v_8 e_8 => ?_)
  obtain rfl : v_8 = 102 := e_8.trans (hTE.1.trans hc0)
  refine rm_lkup (off := 26) (tgt := 56) hc dX9_does_30 (by decide) (by decide) (by decide) ?_
  refine rm_aload_n hc dX9_does_56 rfl rfl ?_
  refine rm_get hc dX9_does_57 fl_X9_7 dm_14 rfl rfl ?_
  refine rm_bipush (v := 14) hc dX9_does_60 (by decide) ?_
  refine rm_iconst (v := 4) hc dX9_does_62 (by decide) ?_
  refine rm_iload_n hc dX9_does_63 rfl rfl ?_
  refine rm_imul hc dX9_does_64 (fun v_9 e_9 => ?_)
  obtain rfl : v_9 = (nI (4 * a)) := e_9.trans (nmul (m := 4) (n := a) (by omega))
  clear e_9
  refine rm_iadd hc dX9_does_65 (fun v_10 e_10 => ?_)
  obtain rfl : v_10 = (nI (14 + 4 * a)) := e_10.trans (nadd (m := 14) (n := 4 * a) (by omega))
  clear e_10
  refine rm_iconst (v := 2) hc dX9_does_66 (by decide) ?_
  refine rm_iadd hc dX9_does_67 (fun v_11 e_11 => ?_)
  obtain rfl : v_11 = (nI (16 + 4 * a)) := e_11.trans (nadd (m := 14 + 4 * a) (n := 2) (by omega))
  clear e_11
  refine rm_iald (i := 16 + 4 * a) hc dX9_does_68 (dm_15 (by omega)) rfl (by omega) (by decide) rfl (fun v_12 e_12 => ?_)
  refine rm_if_ne (tgt := 74) hc dX9_does_69 (by decide) (fun c_13 => ?_) (fun c_13 => ?_)
  · --
    have hb : ¬ x 10 (16 + 4 * a) = 0 := fun h => c_13 (e_12.trans h)
    refine rm_aload_n hc dX9_does_74 rfl rfl ?_
    refine rm_aload_n hc dX9_does_75 rfl rfl ?_
    refine rm_get hc dX9_does_76 fl_X9_7 dm_14 rfl rfl ?_
    refine rm_iload_n hc dX9_does_79 rfl rfl ?_
    refine rm_iload_n hc dX9_does_80 rfl rfl ?_
    refine rm_calliV (As := [.ref (ad 10 15 0), .int (nI (a)), .int v_6]) (rest := []) hc dX9_does_81 (c_X9_presses hI x (k := 10) (j := a) (nr := nr) (by omega) (by omega) v_6 hRS mm (by omega) hw hRF hnr (by omega)) mv_X9_101 dm_14 rfl rfl (hn := rfl) (hst := rfl) (hw := Nat.le_of_ble_eq_true rfl) (hR := ⟨⟨rfl, rfl⟩, Nat.le_of_ble_eq_true rfl, Nat.le_of_ble_eq_true rfl⟩) (hnc := ⟨Nat.zero_le _, Nat.zero_le _⟩) (fun r_14 y_14 h_14 => ?_)
    obtain ⟨e_14, hM_14⟩ := h_14
    refine rm_pop hc dX9_does_84 rfl ?_
    refine rm_iconst (v := 1) hc dX9_does_85 (by decide) ?_
    exact rm_zret hc dX9_does_86 rfl ⟨by rw [pd_f1 hc0 hd (by omega) hb], by rw [pd_f1 hc0 hd (by omega) hb, ← hmk]; exact hM_14⟩
  · --
    have hb : x 10 (16 + 4 * a) = 0 := e_12.symm.trans c_13
    refine rm_iconst (v := 0) hc dX9_does_72 (by decide) ?_
    exact rm_zret hc dX9_does_73 rfl ⟨by rw [pd_f0 hc0 hd (by omega) hb], by rw [pd_f0 hc0 hd (by omega) hb]; exact M7.rf x⟩

set_option maxHeartbeats 4000000 in
set_option maxRecDepth 100000 in
theorem c_X9_does_114 {l : Launch} {D : va_G} {cy : Nat → ClassId} {ad : Ads} (hI : IJ ad) (x : Mem) (xt xm : Mem) {tl t p0 q a : Nat} (ht20 : t < 20) (hT : TXR xt xm tl) (hTE : TE xt x t p0 q) (hd : digS xt (nI (p0 + 1)) = nI a) (mm : Nat) (hIV : IV (x 10) mm) (ha : a < 8) (hc0 : codeS xt (nI p0) = 114) : Cti l yX9_does cX9_does 4 (some .boolean) rm_X9_does D cy ad [.ref (ad 15 14 0), .int (nI (t))] x (fun r y => r = (pdM xt x p0 q mm).1 ∧ M7 (pdM xt x p0 q mm).2 y) := by
  obtain ⟨hRS, hRF, hw, hmm, nr, hr8, hnr⟩ := hIV
  have ht1 : x 14 (1 + 3 * t) = nI a := hTE.2.1.trans hd
  refine rm_entry (Qc := Qi D cy ad (fun r y => r = (pdM xt x p0 q mm).1 ∧ M7 (pdM xt x p0 q mm).2 y)) hI (by decide) (Nat.le_of_ble_eq_true rfl) ?_
  intro p e s m args below meth c hc
  show RM _ _ _ _ _ _ _ _ _ _ _ _ _ _ _ _ _ [(0, .ref (ad 15 14 0)), (1, .int (nI (t)))] []
  refine rm_aload_n hc dX9_does_0 rfl rfl ?_
  refine rm_get hc dX9_does_1 fl_X9_22 dm_14 rfl rfl ?_
  refine rm_iconst (v := 3) hc dX9_does_4 (by decide) ?_
  refine rm_iload_n hc dX9_does_5 rfl rfl ?_
  refine rm_imul hc dX9_does_6 (fun v_1 e_1 => ?_)
  obtain rfl : v_1 = (nI (3 * t)) := e_1.trans (nmul (m := 3) (n := t) (by omega))
  clear e_1
  refine rm_iconst (v := 1) hc dX9_does_7 (by decide) ?_
  refine rm_iadd hc dX9_does_8 (fun v_2 e_2 => ?_)
  obtain rfl : v_2 = (nI (1 + 3 * t)) := e_2.trans (nadd (m := 3 * t) (n := 1) (by omega))
  clear e_2
  refine rm_iald (i := 1 + 3 * t) hc dX9_does_9 dm_18 rfl (by omega) (by decide) rfl (fun v_3 e_3 => ?_)
  obtain rfl : v_3 = (nI (a)) := e_3.trans ht1
  refine rm_istore_n (ls' := [(0, .ref (ad 15 14 0)), (1, .int (nI (t))), (2, .int (nI (a)))]) hc dX9_does_10 rfl (by decide) rfl ?_
  refine rm_aload_n hc dX9_does_11 rfl rfl ?_
  refine rm_get hc dX9_does_12 fl_X9_22 dm_14 rfl rfl ?_
  refine rm_iconst (v := 3) hc dX9_does_15 (by decide) ?_
  refine rm_iload_n hc dX9_does_16 rfl rfl ?_
  refine rm_imul hc dX9_does_17 (fun v_4 e_4 => ?_)
  obtain rfl : v_4 = (nI (3 * t)) := e_4.trans (nmul (m := 3) (n := t) (by omega))
  clear e_4
  refine rm_iconst (v := 2) hc dX9_does_18 (by decide) ?_
  refine rm_iadd hc dX9_does_19 (fun v_5 e_5 => ?_)
  obtain rfl : v_5 = (nI (2 + 3 * t)) := e_5.trans (nadd (m := 3 * t) (n := 2) (by omega))
  clear e_5
  refine rm_iald (i := 2 + 3 * t) hc dX9_does_20 dm_18 rfl (by omega) (by decide) rfl (fun v_6 e_6 => ?_)
  have hmk : v_6 = mskS xt p0 q := by rw [e_6]; exact hTE.2.2.resolve_left (by rw [hc0]; decide)
  refine rm_istore_n (ls' := [(0, .ref (ad 15 14 0)), (1, .int (nI (t))), (2, .int (nI (a))), (3, .int v_6)]) hc dX9_does_21 rfl (by decide) rfl ?_
  refine rm_aload_n hc dX9_does_22 rfl rfl ?_
  refine rm_get hc dX9_does_23 fl_X9_22 dm_14 rfl rfl ?_
  refine rm_iconst (v := 3) hc dX9_does_26 (by decide) ?_
  refine rm_iload_n hc dX9_does_27 rfl rfl ?_
  refine rm_imul hc dX9_does_28 (fun v_7 e_7 => ?_)
  obtain rfl : v_7 = (nI (3 * t)) := e_7.trans (nmul (m := 3) (n := t) (by omega))
  clear e_7
  refine rm_iald (i := 3 * t) hc dX9_does_29 dm_18 rfl (by omega) (by decide) rfl (fun v_8 e_8 => ?_)
  obtain rfl : v_8 = 114 := e_8.trans (hTE.1.trans hc0)
  refine rm_lkup (off := 57) (tgt := 87) hc dX9_does_30 (by decide) (by decide) (by decide) ?_
  refine rm_iload_n hc dX9_does_87 rfl rfl ?_
  refine rm_aload_n hc dX9_does_88 rfl rfl ?_
  refine rm_get hc dX9_does_89 fl_X9_7 dm_14 rfl rfl ?_
  refine rm_iconst (v := 5) hc dX9_does_92 (by decide) ?_
  refine rm_iald (i := 5) hc dX9_does_93 (dm_15 (by omega)) rfl (by omega) (by decide) rfl (fun v_9 e_9 => ?_)
  obtain rfl : v_9 = (nI (nr)) := e_9.trans hnr
  rcases Nat.lt_or_ge a nr with z_10 | z_10
  · --
    refine rm_icmp_lt (tgt := 99) hc dX9_does_94 (by decide) (fun _ => ?_) (fun h => absurd ((nI_ltI (a := a) (b := nr) (by omega) (by omega)).mpr (by omega)) h)
    refine rm_aload_n hc dX9_does_99 rfl rfl ?_
    refine rm_iload_n hc dX9_does_100 rfl rfl ?_
    refine rm_iload_n hc dX9_does_101 rfl rfl ?_
    refine rm_calliV (As := [.int (nI (a)), .int v_6]) (rest := []) hc dX9_does_102 (c_X9_sends hI x (ii := a) (by omega) v_6 hRS mm (by omega) hw) mv_X9_104 dm_14 rfl rfl (hn := rfl) (hst := rfl) (hw := Nat.le_of_ble_eq_true rfl) (hR := ⟨⟨rfl, rfl⟩, Nat.le_of_ble_eq_true rfl, Nat.le_of_ble_eq_true rfl⟩) (hnc := ⟨Nat.zero_le _, Nat.zero_le _⟩) (fun r_11 y_11 h_11 => ?_)
    obtain ⟨e_11, hM_11⟩ := h_11
    refine rm_pop hc dX9_does_105 rfl ?_
    refine rm_iconst (v := 1) hc dX9_does_106 (by decide) ?_
    exact rm_zret hc dX9_does_107 rfl ⟨by rw [pd_r hc0 hd (by omega) hnr hr8, if_pos (by omega)], by rw [pd_r hc0 hd (by omega) hnr hr8, if_pos (by omega), ← hmk]; exact hM_11⟩
  · --
    refine rm_icmp_lt (tgt := 99) hc dX9_does_94 (by decide) (fun h => absurd h (fun h2 => absurd ((nI_ltI (a := a) (b := nr) (by omega) (by omega)).mp h2) (by omega))) (fun _ => ?_)
    refine rm_iconst (v := 0) hc dX9_does_97 (by decide) ?_
    exact rm_zret hc dX9_does_98 rfl ⟨by rw [pd_r hc0 hd (by omega) hnr hr8, if_neg (by omega)], by rw [pd_r hc0 hd (by omega) hnr hr8, if_neg (by omega)]; exact M7.rf x⟩

set_option maxHeartbeats 4000000 in
set_option maxRecDepth 100000 in
theorem c_X9_does_99 {l : Launch} {D : va_G} {cy : Nat → ClassId} {ad : Ads} (hI : IJ ad) (x : Mem) (xt xm : Mem) {tl t p0 q a : Nat} (ht20 : t < 20) (hT : TXR xt xm tl) (hTE : TE xt x t p0 q) (hd : digS xt (nI (p0 + 1)) = nI a) (mm : Nat) (hIV : IV (x 10) mm) (ha : a < 3) (hc0 : codeS xt (nI p0) = 99) : Cti l yX9_does cX9_does 4 (some .boolean) rm_X9_does D cy ad [.ref (ad 15 14 0), .int (nI (t))] x (fun r y => r = (pdM xt x p0 q mm).1 ∧ M7 (pdM xt x p0 q mm).2 y) := by
  obtain ⟨hRS, hRF, hw, hmm, nr, hr8, hnr⟩ := hIV
  have ht1 : x 14 (1 + 3 * t) = nI a := hTE.2.1.trans hd
  refine rm_entry (Qc := Qi D cy ad (fun r y => r = (pdM xt x p0 q mm).1 ∧ M7 (pdM xt x p0 q mm).2 y)) hI (by decide) (Nat.le_of_ble_eq_true rfl) ?_
  intro p e s m args below meth c hc
  show RM _ _ _ _ _ _ _ _ _ _ _ _ _ _ _ _ _ [(0, .ref (ad 15 14 0)), (1, .int (nI (t)))] []
  refine rm_aload_n hc dX9_does_0 rfl rfl ?_
  refine rm_get hc dX9_does_1 fl_X9_22 dm_14 rfl rfl ?_
  refine rm_iconst (v := 3) hc dX9_does_4 (by decide) ?_
  refine rm_iload_n hc dX9_does_5 rfl rfl ?_
  refine rm_imul hc dX9_does_6 (fun v_1 e_1 => ?_)
  obtain rfl : v_1 = (nI (3 * t)) := e_1.trans (nmul (m := 3) (n := t) (by omega))
  clear e_1
  refine rm_iconst (v := 1) hc dX9_does_7 (by decide) ?_
  refine rm_iadd hc dX9_does_8 (fun v_2 e_2 => ?_)
  obtain rfl : v_2 = (nI (1 + 3 * t)) := e_2.trans (nadd (m := 3 * t) (n := 1) (by omega))
  clear e_2
  refine rm_iald (i := 1 + 3 * t) hc dX9_does_9 dm_18 rfl (by omega) (by decide) rfl (fun v_3 e_3 => ?_)
  obtain rfl : v_3 = (nI (a)) := e_3.trans ht1
  refine rm_istore_n (ls' := [(0, .ref (ad 15 14 0)), (1, .int (nI (t))), (2, .int (nI (a)))]) hc dX9_does_10 rfl (by decide) rfl ?_
  refine rm_aload_n hc dX9_does_11 rfl rfl ?_
  refine rm_get hc dX9_does_12 fl_X9_22 dm_14 rfl rfl ?_
  refine rm_iconst (v := 3) hc dX9_does_15 (by decide) ?_
  refine rm_iload_n hc dX9_does_16 rfl rfl ?_
  refine rm_imul hc dX9_does_17 (fun v_4 e_4 => ?_)
  obtain rfl : v_4 = (nI (3 * t)) := e_4.trans (nmul (m := 3) (n := t) (by omega))
  clear e_4
  refine rm_iconst (v := 2) hc dX9_does_18 (by decide) ?_
  refine rm_iadd hc dX9_does_19 (fun v_5 e_5 => ?_)
  obtain rfl : v_5 = (nI (2 + 3 * t)) := e_5.trans (nadd (m := 3 * t) (n := 2) (by omega))
  clear e_5
  refine rm_iald (i := 2 + 3 * t) hc dX9_does_20 dm_18 rfl (by omega) (by decide) rfl (fun v_6 e_6 => ?_)
  refine rm_istore_n (ls' := [(0, .ref (ad 15 14 0)), (1, .int (nI (t))), (2, .int (nI (a))), (3, .int v_6)]) hc dX9_does_21 rfl (by decide) rfl ?_
  refine rm_aload_n hc dX9_does_22 rfl rfl ?_
  refine rm_get hc dX9_does_23 fl_X9_22 dm_14 rfl rfl ?_
  refine rm_iconst (v := 3) hc dX9_does_26 (by decide) ?_
  refine rm_iload_n hc dX9_does_27 rfl rfl ?_
  refine rm_imul hc dX9_does_28 (fun v_7 e_7 => ?_)
  obtain rfl : v_7 = (nI (3 * t)) := e_7.trans (nmul (m := 3) (n := t) (by omega))
  clear e_7
  refine rm_iald (i := 3 * t) hc dX9_does_29 dm_18 rfl (by omega) (by decide) rfl (fun v_8 e_8 => ?_)
  obtain rfl : v_8 = 99 := e_8.trans (hTE.1.trans hc0)
  refine rm_lkup (off := 78) (tgt := 108) hc dX9_does_30 (by decide) (by decide) (by decide) ?_
  refine rm_aload_n hc dX9_does_108 rfl rfl ?_
  refine rm_bipush (v := 30) hc dX9_does_109 (by decide) ?_
  refine rm_bipush (v := 22) hc dX9_does_111 (by decide) ?_
  refine rm_iload_n hc dX9_does_113 rfl rfl ?_
  refine rm_imul hc dX9_does_114 (fun v_9 e_9 => ?_)
  obtain rfl : v_9 = (nI (22 * a)) := e_9.trans (nmul (m := 22) (n := a) (by omega))
  clear e_9
  refine rm_iadd hc dX9_does_115 (fun v_10 e_10 => ?_)
  obtain rfl : v_10 = (nI (30 + 22 * a)) := e_10.trans (nadd (m := 30) (n := 22 * a) (by omega))
  clear e_10
  refine rm_iconst (v := 0) hc dX9_does_116 (by decide) ?_
  refine rm_calliV (As := [.int (nI (30 + 22 * a)), .int 0]) (rest := []) hc dX9_does_117 (c_X9_changes hI x (n := 30 + 22 * a) (by omega) 0) mv_X9_98 dm_14 rfl rfl (hn := rfl) (hst := rfl) (hw := Nat.le_of_ble_eq_true rfl) (hR := ⟨⟨rfl, rfl⟩, Nat.le_of_ble_eq_true rfl, Nat.le_of_ble_eq_true rfl⟩) (hnc := ⟨Nat.zero_le _, Nat.zero_le _⟩) (fun r_11 y_11 h_11 => ?_)
  obtain ⟨e_11, ey_11⟩ := h_11
  refine rm_pop hc dX9_does_120 rfl ?_
  refine rm_iconst (v := 1) hc dX9_does_121 (by decide) ?_
  exact rm_zret hc dX9_does_122 rfl ⟨by rw [pd_c hc0 hd (by omega)], by rw [pd_c hc0 hd (by omega), ey_11]; exact M7.rf _⟩

set_option maxHeartbeats 4000000 in
set_option maxRecDepth 100000 in
theorem c_X9_play {l : Launch} {D : va_G} {cy : Nat → ClassId} {ad : Ads} (hI : IJ ad) (x : Mem) (xt : Mem) {tl : Nat} (hT : TXR xt x tl) (mm : Nat) (hIV : IV (x 10) mm) {kq : Nat} (hk6 : kq ≤ 6) (hkq : x 15 0 = nI kq) : Cti l yX9_play cX9_play 2 (some .int) rm_X9_play D cy ad [.ref (ad 15 14 0)] x (fun r y => ((∃ q, TextNo xt tl q) ∧ y 15 2 = 1 ∧ MX x (up y 15 2 (x 15 2))) ∨ (∃ (T : Nat) (st : Nat → Nat) (w : Mem), TextOk xt w tl T st ∧ (∃ d, d ≤ 2 ∧ stA xt tl = nI (5 + d)) ∧ r = nI (plM mm xt st T (up (svM (T0 x) kq) 15 1 0) 0).1 ∧ MX (plM mm xt st T (up (svM (T0 x) kq) 15 1 0) 0).2 y)) := by
  refine rm_entry (Qc := Qi D cy ad (fun r y => ((∃ q, TextNo xt tl q) ∧ y 15 2 = 1 ∧ MX x (up y 15 2 (x 15 2))) ∨ (∃ (T : Nat) (st : Nat → Nat) (w : Mem), TextOk xt w tl T st ∧ (∃ d, d ≤ 2 ∧ stA xt tl = nI (5 + d)) ∧ r = nI (plM mm xt st T (up (svM (T0 x) kq) 15 1 0) 0).1 ∧ MX (plM mm xt st T (up (svM (T0 x) kq) 15 1 0) 0).2 y))) hI (by decide) (Nat.le_of_ble_eq_true rfl) ?_
  intro p e s m args below meth c hc
  show RM _ _ _ _ _ _ _ _ _ _ _ _ _ _ _ _ _ [(0, .ref (ad 15 14 0))] []
  refine rm_aload_n hc dX9_play_0 rfl rfl ?_
  refine rm_iconst (v := 0) hc dX9_play_1 (by decide) ?_
  refine rm_put hc dX9_play_2 fl_X9_25 dm_14 rfl (Nat.le_of_ble_eq_true rfl) ft_9_6 rfl rfl so_14_6 (rm_nm (fun x_1 ex_1 => ?_))
  refine rm_aload_n hc dX9_play_5 rfl rfl ?_
  have hTT : TXR xt x_1 tl := by rw [ex_1]; exact hT.T0
  refine rm_calliV (As := []) (rest := []) hc dX9_play_6 (c_X9_isText hI x_1 x_1 xt (tl := tl) hTT (MT.rf _)) mv_X9_143 dm_14 rfl rfl (hn := rfl) (hst := rfl) (hw := Nat.le_of_ble_eq_true rfl) (hR := ⟨⟨rfl, rfl⟩, Nat.le_of_ble_eq_true rfl, Nat.le_of_ble_eq_true rfl⟩) (hnc := ⟨Nat.zero_le _, Nat.zero_le _⟩) (fun r_2 y_2 h_2 => ?_)
  obtain ⟨hMt, ⟨hr_2, ⟨T, st, hTO0, hTn⟩, hsd⟩ | ⟨hr_2, q, hTN, hpq, hfq⟩⟩ := h_2
  · --
    obtain rfl : r_2 = 1 := hr_2
    have hMtx : MX (T0 x) y_2 := by rw [ex_1] at hMt; exact MX.mt hMt
    have hIVy : IV (y_2 10) mm := by rw [hMtx.blk (by omega) (by omega), T0_10]; exact hIV
    have hTO : TextOk xt y_2 tl T st := hTO0
    have hT20 : T ≤ 20 := hTO.2.2.1
    have hsd' : ∃ d, d ≤ 2 ∧ stA xt tl = nI (5 + d) := hsd
    refine rm_if_ne (tgt := 18) hc dX9_play_9 (by decide) (fun _ => ?_) (fun h => absurd h (by decide))
    refine rm_aload_n hc dX9_play_18 rfl rfl ?_
    refine rm_callvV (As := []) (rest := []) hc dX9_play_19 (c_X9_saves hI y_2 (kq := kq) (by omega) ((hMtx 15 0 (by omega) (by omega)).trans (T0_0.trans hkq))) mv_X9_95 dm_14 rfl rfl (hn := rfl) (hst := rfl) (hw := Nat.le_of_ble_eq_true rfl) (hR := ⟨⟨rfl, rfl⟩, Nat.le_of_ble_eq_true rfl, Nat.le_of_ble_eq_true rfl⟩) (hnc := ⟨Nat.zero_le _, Nat.zero_le _⟩) (fun y_4 h_4 => ?_)
    refine rm_aload_n hc dX9_play_22 rfl rfl ?_
    refine rm_iconst (v := 0) hc dX9_play_23 (by decide) ?_
    refine rm_put hc dX9_play_24 fl_X9_114 dm_14 rfl (Nat.le_of_ble_eq_true rfl) ft_9_5 rfl rfl so_14_5 (rm_nm (fun x_5 ex_5 => ?_))
    refine rm_iconst (v := 0) hc dX9_play_27 (by decide) ?_
    refine rm_istore_n (ls' := [(0, .ref (ad 15 14 0)), (1, .int 0)]) hc dX9_play_28 rfl (by decide) rfl ?_
    have hm0 : x_5 = up (svM y_2 kq) 15 1 0 := by rw [ex_5, h_4]
    have key29 : ∀ (f t : Nat) (z zm : Mem), t + f = T → M7 z zm → IV (z 10) mm → (∀ n, z 14 n = y_2 14 n) → z 15 5 = nI T → plM mm xt st f z t = plM mm xt st T x_5 0 → RM p l e rm_X9_play s m args below meth c 2 (AA ad s.heap.size) (GG D cy ad zm) 0 0 (QQ (Qi D cy ad (fun r y => ((∃ q, TextNo xt tl q) ∧ y 15 2 = 1 ∧ MX x (up y 15 2 (x 15 2))) ∨ (∃ (T : Nat) (st : Nat → Nat) (w : Mem), TextOk xt w tl T st ∧ (∃ d, d ≤ 2 ∧ stA xt tl = nI (5 + d)) ∧ r = nI (plM mm xt st T (up (svM (T0 x) kq) 15 1 0) 0).1 ∧ MX (plM mm xt st T (up (svM (T0 x) kq) 15 1 0) 0).2 y))) below args s ad) 29 [(0, .ref (ad 15 14 0)), (1, .int (nI (t)))] [] := by
      intro f
      induction f with
      | zero =>
        intro t z zm htf hM hIVz h14 h5 hst
        refine rm_iload_n hc dX9_play_29 rfl rfl ?_
        refine rm_aload_n hc dX9_play_30 rfl rfl ?_
        refine rm_geti hc dX9_play_31 fl_X9_131 dm_14 rfl rfl (fun v_6 e_6 => ?_)
        obtain rfl : v_6 = (nI (T)) := e_6.trans ((hM 15 5 (by omega)).trans h5)
        refine rm_icmp_ge (tgt := 51) hc dX9_play_34 (by decide) (fun _ => ?_) (fun h => absurd ((nI_leI (a := T) (b := t) (by omega) (by omega)).mpr (by omega)) h)
        refine rm_iload_n hc dX9_play_51 rfl rfl ?_
        exact rm_iret hc dX9_play_52 (Or.inr ⟨T, st, _, hTO, hsd', by have hfin := MX.pl (x0 := xt) (mm := mm) (st := st) T 0 (show MX (up (svM (T0 x) kq) 15 1 0) x_5 by rw [hm0]; exact (svM_mx hMtx).upq rfl); rw [← hst] at hfin; exact congrArg nI hfin.2, by have hfin := MX.pl (x0 := xt) (mm := mm) (st := st) T 0 (show MX (up (svM (T0 x) kq) 15 1 0) x_5 by rw [hm0]; exact (svM_mx hMtx).upq rfl); rw [← hst] at hfin; exact hfin.1.tr (MX.m7 hM)⟩)
      | succ f ih =>
        intro t z zm htf hM hIVz h14 h5 hst
        refine rm_iload_n hc dX9_play_29 rfl rfl ?_
        refine rm_aload_n hc dX9_play_30 rfl rfl ?_
        refine rm_geti hc dX9_play_31 fl_X9_131 dm_14 rfl rfl (fun v_8 e_8 => ?_)
        obtain rfl : v_8 = (nI (T)) := e_8.trans ((hM 15 5 (by omega)).trans h5)
        refine rm_icmp_ge (tgt := 51) hc dX9_play_34 (by decide) (fun h => absurd h (fun h2 => absurd ((nI_leI (a := T) (b := t) (by omega) (by omega)).mp h2) (by omega))) (fun _ => ?_)
        obtain ⟨hPo, h3s, hle, -, hTE⟩ := hTO.2.2.2 t (by omega)
        have hTx : TXR xt x tl := hT
        have h20 := hTO.2.2.1
        have hTEz : TE xt zm t (st t) (st (t + 1) - 1) := hTE.m15 (funext fun n => (hM.at (by omega)).trans (h14 n))
        obtain ⟨k, a, hk1, hk2, hk3⟩ := hPo.k hT
        have hIVm : IV (zm 10) mm := by rw [hM.blk (by omega)]; exact hIVz
        rcases hk3 with ⟨rfl, ha⟩ | ⟨rfl, ha⟩ | ⟨rfl, ha⟩
        · --
          refine rm_aload_n hc dX9_play_37 rfl rfl ?_
          refine rm_iload_n hc dX9_play_38 rfl rfl ?_
          refine rm_calliV (As := [.int (nI (t))]) (rest := []) hc dX9_play_39 (c_X9_does_102 hI zm xt x (tl := tl) (t := t) (p0 := st t) (q := st (t + 1) - 1) (a := a) (by omega) hT hTEz hk2 mm hIVm ha hk1) mv_X9_146 dm_14 rfl rfl (hn := rfl) (hst := rfl) (hw := Nat.le_of_ble_eq_true rfl) (hR := ⟨⟨rfl, rfl⟩, Nat.le_of_ble_eq_true rfl, Nat.le_of_ble_eq_true rfl⟩) (hnc := ⟨Nat.zero_le _, Nat.zero_le _⟩) (fun r_10 y_10 h_10 => ?_)
          obtain ⟨e_10, hMd0⟩ := h_10
          have hpd := hM.pd (x0 := xt) (p := st t) (q := st (t + 1) - 1) (mm := mm)
          have hMd : M7 (pdM xt z (st t) (st (t + 1) - 1) mm).2 y_10 := hpd.1.tr hMd0
          replace e_10 : r_10 = (pdM xt z (st t) (st (t + 1) - 1) mm).1 := e_10.trans hpd.2
          refine rm_if_eq (tgt := 51) hc dX9_play_42 (by decide) (fun c_11 => ?_) (fun c_11 => ?_)
          · --
            have hz : (pdM xt z (st t) (st (t + 1) - 1) mm).1 = 0 := e_10.symm.trans c_11
            refine rm_iload_n hc dX9_play_51 rfl rfl ?_
            exact rm_iret hc dX9_play_52 (Or.inr ⟨T, st, _, hTO, hsd', by have hfin := MX.pl (x0 := xt) (mm := mm) (st := st) T 0 (show MX (up (svM (T0 x) kq) 15 1 0) x_5 by rw [hm0]; exact (svM_mx hMtx).upq rfl); rw [← hst, plM_0 hz] at hfin; exact congrArg nI hfin.2, by have hfin := MX.pl (x0 := xt) (mm := mm) (st := st) T 0 (show MX (up (svM (T0 x) kq) 15 1 0) x_5 by rw [hm0]; exact (svM_mx hMtx).upq rfl); rw [← hst, plM_0 hz] at hfin; exact hfin.1.tr (MX.m7 hMd)⟩)
          · --
            have hnz : ¬ (pdM xt z (st t) (st (t + 1) - 1) mm).1 = 0 := fun h => c_11 (e_10.trans h)
            refine rm_iinc (v := (nI (t + 1))) (ls' := [(0, .ref (ad 15 14 0)), (1, .int (nI (t + 1)))]) hc dX9_play_45 rfl (nIj (by omega)) (by decide) rfl ?_
            refine rm_goto (tgt := 29) hc dX9_play_48 (by decide) ?_
            exact ih (t + 1) _ _ (by omega) hMd (by exact hIVz.pd hPo hTx) (fun n => (pd_b (by omega)).trans (h14 n)) ((pd_b (by omega)).trans h5) (by rw [← hst, plM_y hnz])
        · --
          refine rm_aload_n hc dX9_play_37 rfl rfl ?_
          refine rm_iload_n hc dX9_play_38 rfl rfl ?_
          refine rm_calliV (As := [.int (nI (t))]) (rest := []) hc dX9_play_39 (c_X9_does_114 hI zm xt x (tl := tl) (t := t) (p0 := st t) (q := st (t + 1) - 1) (a := a) (by omega) hT hTEz hk2 mm hIVm ha hk1) mv_X9_146 dm_14 rfl rfl (hn := rfl) (hst := rfl) (hw := Nat.le_of_ble_eq_true rfl) (hR := ⟨⟨rfl, rfl⟩, Nat.le_of_ble_eq_true rfl, Nat.le_of_ble_eq_true rfl⟩) (hnc := ⟨Nat.zero_le _, Nat.zero_le _⟩) (fun r_12 y_12 h_12 => ?_)
          obtain ⟨e_12, hMd0⟩ := h_12
          have hpd := hM.pd (x0 := xt) (p := st t) (q := st (t + 1) - 1) (mm := mm)
          have hMd : M7 (pdM xt z (st t) (st (t + 1) - 1) mm).2 y_12 := hpd.1.tr hMd0
          replace e_12 : r_12 = (pdM xt z (st t) (st (t + 1) - 1) mm).1 := e_12.trans hpd.2
          refine rm_if_eq (tgt := 51) hc dX9_play_42 (by decide) (fun c_13 => ?_) (fun c_13 => ?_)
          · --
            have hz : (pdM xt z (st t) (st (t + 1) - 1) mm).1 = 0 := e_12.symm.trans c_13
            refine rm_iload_n hc dX9_play_51 rfl rfl ?_
            exact rm_iret hc dX9_play_52 (Or.inr ⟨T, st, _, hTO, hsd', by have hfin := MX.pl (x0 := xt) (mm := mm) (st := st) T 0 (show MX (up (svM (T0 x) kq) 15 1 0) x_5 by rw [hm0]; exact (svM_mx hMtx).upq rfl); rw [← hst, plM_0 hz] at hfin; exact congrArg nI hfin.2, by have hfin := MX.pl (x0 := xt) (mm := mm) (st := st) T 0 (show MX (up (svM (T0 x) kq) 15 1 0) x_5 by rw [hm0]; exact (svM_mx hMtx).upq rfl); rw [← hst, plM_0 hz] at hfin; exact hfin.1.tr (MX.m7 hMd)⟩)
          · --
            have hnz : ¬ (pdM xt z (st t) (st (t + 1) - 1) mm).1 = 0 := fun h => c_13 (e_12.trans h)
            refine rm_iinc (v := (nI (t + 1))) (ls' := [(0, .ref (ad 15 14 0)), (1, .int (nI (t + 1)))]) hc dX9_play_45 rfl (nIj (by omega)) (by decide) rfl ?_
            refine rm_goto (tgt := 29) hc dX9_play_48 (by decide) ?_
            exact ih (t + 1) _ _ (by omega) hMd (by exact hIVz.pd hPo hTx) (fun n => (pd_b (by omega)).trans (h14 n)) ((pd_b (by omega)).trans h5) (by rw [← hst, plM_y hnz])
        · --
          refine rm_aload_n hc dX9_play_37 rfl rfl ?_
          refine rm_iload_n hc dX9_play_38 rfl rfl ?_
          refine rm_calliV (As := [.int (nI (t))]) (rest := []) hc dX9_play_39 (c_X9_does_99 hI zm xt x (tl := tl) (t := t) (p0 := st t) (q := st (t + 1) - 1) (a := a) (by omega) hT hTEz hk2 mm hIVm ha hk1) mv_X9_146 dm_14 rfl rfl (hn := rfl) (hst := rfl) (hw := Nat.le_of_ble_eq_true rfl) (hR := ⟨⟨rfl, rfl⟩, Nat.le_of_ble_eq_true rfl, Nat.le_of_ble_eq_true rfl⟩) (hnc := ⟨Nat.zero_le _, Nat.zero_le _⟩) (fun r_14 y_14 h_14 => ?_)
          obtain ⟨e_14, hMd0⟩ := h_14
          have hpd := hM.pd (x0 := xt) (p := st t) (q := st (t + 1) - 1) (mm := mm)
          have hMd : M7 (pdM xt z (st t) (st (t + 1) - 1) mm).2 y_14 := hpd.1.tr hMd0
          replace e_14 : r_14 = (pdM xt z (st t) (st (t + 1) - 1) mm).1 := e_14.trans hpd.2
          refine rm_if_eq (tgt := 51) hc dX9_play_42 (by decide) (fun c_15 => ?_) (fun c_15 => ?_)
          · --
            have hz : (pdM xt z (st t) (st (t + 1) - 1) mm).1 = 0 := e_14.symm.trans c_15
            refine rm_iload_n hc dX9_play_51 rfl rfl ?_
            exact rm_iret hc dX9_play_52 (Or.inr ⟨T, st, _, hTO, hsd', by have hfin := MX.pl (x0 := xt) (mm := mm) (st := st) T 0 (show MX (up (svM (T0 x) kq) 15 1 0) x_5 by rw [hm0]; exact (svM_mx hMtx).upq rfl); rw [← hst, plM_0 hz] at hfin; exact congrArg nI hfin.2, by have hfin := MX.pl (x0 := xt) (mm := mm) (st := st) T 0 (show MX (up (svM (T0 x) kq) 15 1 0) x_5 by rw [hm0]; exact (svM_mx hMtx).upq rfl); rw [← hst, plM_0 hz] at hfin; exact hfin.1.tr (MX.m7 hMd)⟩)
          · --
            have hnz : ¬ (pdM xt z (st t) (st (t + 1) - 1) mm).1 = 0 := fun h => c_15 (e_14.trans h)
            refine rm_iinc (v := (nI (t + 1))) (ls' := [(0, .ref (ad 15 14 0)), (1, .int (nI (t + 1)))]) hc dX9_play_45 rfl (nIj (by omega)) (by decide) rfl ?_
            refine rm_goto (tgt := 29) hc dX9_play_48 (by decide) ?_
            exact ih (t + 1) _ _ (by omega) hMd (by exact hIVz.pd hPo hTx) (fun n => (pd_b (by omega)).trans (h14 n)) ((pd_b (by omega)).trans h5) (by rw [← hst, plM_y hnz])
    exact key29 T 0 x_5 _ (by omega) (M7.rf _) (by rw [hm0, blk_up (by omega), svM_10]; exact hIVy) (fun n => by rw [hm0, up_b _ _ _ (by omega)]; exact svM_14 (by omega) (by omega)) (by rw [hm0, up_n _ _ (by omega), svM_14 (by omega) (by omega)]; exact hTn) rfl
  · --
    obtain rfl : r_2 = 0 := hr_2
    have hTN' : TextNo xt tl q := hTN
    have hMtx : MX (T0 x) y_2 := by rw [ex_1] at hMt; exact MX.mt hMt
    refine rm_if_ne (tgt := 18) hc dX9_play_9 (by decide) (fun h => absurd h (by decide)) (fun _ => ?_)
    refine rm_aload_n hc dX9_play_12 rfl rfl ?_
    refine rm_iconst (v := 1) hc dX9_play_13 (by decide) ?_
    refine rm_calliV (As := [.int 1]) (rest := []) hc dX9_play_14 (c_X9_fails hI y_2 1) mv_X9_44 dm_14 rfl rfl (hn := rfl) (hst := rfl) (hw := Nat.le_of_ble_eq_true rfl) (hR := ⟨⟨rfl, rfl⟩, Nat.le_of_ble_eq_true rfl, Nat.le_of_ble_eq_true rfl⟩) (hnc := ⟨Nat.zero_le _, Nat.zero_le _⟩) (fun r_17 y_17 h_17 => ?_)
    obtain ⟨e_17, ey_17⟩ := h_17
    exact rm_iret hc dX9_play_17 (Or.inl ⟨⟨q, hTN'⟩, by rw [ey_17]; exact up_s _ _ _ _, by rw [ey_17]; exact hMtx.t2⟩)
