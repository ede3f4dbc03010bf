/-! ===== what the looks answer ===== -/
def ps (f : Nat → Int32) : Nat → Int32
  | 0 => 0
  | n + 1 => ps f n + f n
def pf (x : Mem) (j : Nat) : Int32 := x 0 (17 + 4 * j)
def po (x : Mem) (d : Nat) : Int32 := x 0 (32 + 22 * d)
def pn (x : Mem) (d : Nat) : Int32 := b2 (x 0 (30 + 22 * d))
def pl (x : Mem) (d : Nat) : Int32 := b2 (lockS (x 0 2) (x 0 (31 + 22 * d)))
def ql (x : Mem) (d s : Nat) : Int32 := lookSlot x 0 d s 0
theorem cnt_0 (x : Mem) : cntS x 0 = ps (pf x) 4 := by
  unfold cntS
  rw [if_pos rfl]
  rfl
theorem cnt_2 (x : Mem) : cntS x 2 = ps (po x) 3 := by
  unfold cntS
  rw [if_neg (by decide), if_neg (by decide), if_pos rfl]
  rfl
theorem cnt_3 (x : Mem) : cntS x 3 = x 0 4 := by
  unfold cntS
  rw [if_neg (by decide), if_neg (by decide), if_neg (by decide), if_pos rfl]
theorem cnt_4 (x : Mem) : cntS x 4 = ps (pn x) 3 := by
  unfold cntS
  rw [if_neg (by decide), if_neg (by decide), if_neg (by decide), if_neg (by decide), if_pos rfl]
  rfl
theorem cnt_5 (x : Mem) : cntS x 5 = ps (pl x) 3 := by
  unfold cntS
  rw [if_neg (by decide), if_neg (by decide), if_neg (by decide), if_neg (by decide), if_neg (by decide), if_pos rfl]
  rfl
theorem cnt_6 (x : Mem) : cntS x 6 = x 0 5 := by
  unfold cntS
  rw [if_neg (by decide), if_neg (by decide), if_neg (by decide), if_neg (by decide), if_neg (by decide), if_neg (by decide), if_pos rfl]
theorem cnt_e {x z : Mem} (h : E7 x z) {w : Int32} : cntS z w = cntS x w := by
  unfold cntS
  rw [h 0 (by omega), h 8 (by omega)]
theorem lkS_e {x z : Mem} (h : E7 x z) {d s : Nat} {w : Int32} : lookSlot z 0 d s w = lookSlot x 0 d s w := by
  unfold lookSlot
  rw [h 0 (by omega)]
theorem lkD_e {x z : Mem} (h : E7 x z) {d : Nat} {w : Int32} : lookDoor z 0 d (z 0 2) w = lookDoor x 0 d (x 0 2) w := by
  unfold lookDoor lrnD
  rw [lkS_e h, lkS_e h, lkS_e h, lkS_e h, h 0 (by omega)]
theorem lkF_e {x z : Mem} (h : E7 x z) {j : Nat} {w : Int32} : lookFob z 0 j w = lookFob x 0 j w := by
  unfold lookFob
  rw [h 0 (by omega)]
theorem val_e {x z : Mem} (h : E7 x z) {w : Int32} : valS z 0 w = valS x 0 w := by
  unfold valS
  rw [h 0 (by omega)]
theorem lkF_2 (x : Mem) (j : Nat) : lookFob x 0 j 2 = x 0 (16 + 4 * j) := by
  unfold lookFob
  rw [if_neg (by decide), if_neg (by decide), if_pos rfl]
theorem lkF_3 (x : Mem) (j : Nat) : lookFob x 0 j 3 = nxtN x 0 j := by
  unfold lookFob
  rw [if_neg (by decide), if_neg (by decide), if_neg (by decide), if_pos rfl]
  rfl
theorem lkF_4 (x : Mem) (j : Nat) : lookFob x 0 j 4 = pf x j := by
  unfold lookFob
  rw [if_neg (by decide), if_neg (by decide), if_neg (by decide), if_neg (by decide), if_pos rfl]
  rfl
theorem lkD_0 (x : Mem) (d : Nat) (l : Int32) : lookDoor x 0 d l 0 = pn x d := by
  unfold lookDoor
  rw [if_pos rfl]
  rfl
theorem lkD_1 (x : Mem) (d : Nat) (l : Int32) : lookDoor x 0 d l 1 = x 0 (31 + 22 * d) := by
  unfold lookDoor
  rw [if_neg (by decide), if_pos rfl]
theorem lkD_2 (x : Mem) (d : Nat) : lookDoor x 0 d (x 0 2) 2 = pl x d := by
  unfold lookDoor
  rw [if_neg (by decide), if_neg (by decide), if_pos rfl]
  rfl
theorem lkD_3 (x : Mem) (d : Nat) (l : Int32) : lookDoor x 0 d l 3 = ps (ql x d) 4 := by
  unfold lookDoor
  rw [if_neg (by decide), if_neg (by decide), if_neg (by decide), if_pos rfl]
  rfl
theorem lkD_4 (x : Mem) (d : Nat) (l : Int32) : lookDoor x 0 d l 4 = po x d := by
  unfold lookDoor
  rw [if_neg (by decide), if_neg (by decide), if_neg (by decide), if_neg (by decide), if_pos rfl]
  rfl
theorem val_2 (x : Mem) : valS x 0 2 = x 0 2 := by
  unfold valS
  rw [if_neg (by decide), if_neg (by decide)]
theorem lrn_ps (x : Mem) (d : Nat) : ps (ql x d) 4 = lrnD x 0 d := rfl
theorem lkS_v (x : Mem) (d s : Nat) : lookSlot x 0 d s 0 = (if x 0 (36 + 22 * d + 4 * s) = 0 then 0 else 1) ∧ lookSlot x 0 d s 1 = x 0 (37 + 22 * d + 4 * s) ∧ lookSlot x 0 d s 2 = x 0 (38 + 22 * d + 4 * s) ∧ lookSlot x 0 d s 3 = x 0 (39 + 22 * d + 4 * s) := by
  unfold lookSlot
  refine ⟨if_pos rfl, ?_, ?_, ?_⟩
  · rw [if_neg (by decide), if_pos rfl]
  · rw [if_neg (by decide), if_neg (by decide), if_pos rfl]
  · rw [if_neg (by decide), if_neg (by decide), if_neg (by decide), if_pos rfl]
theorem slot_or {x : Mem} {d s mm B : Nat} (h : CV (x 0) mm B) (hd : d < 3) (hs : s < 4) : (lookSlot x 0 d s 0 = 0 ∧ lookSlot x 0 d s 1 = -1 ∧ lookSlot x 0 d s 2 = -1 ∧ lookSlot x 0 d s 3 = -1) ∨
    (lookSlot x 0 d s 0 = 1 ∧ ∃ sa sb : Nat, sa < 10000 ∧ sb < 10000 ∧ lookSlot x 0 d s 1 = nI sa ∧ lookSlot x 0 d s 2 = nI sb ∧ (lookSlot x 0 d s 3 = -1 ∨ ∃ sc : Nat, sc < 10000 ∧ lookSlot x 0 d s 3 = nI sc)) := by
  obtain ⟨e0, e1, e2, e3⟩ := lkS_v x d s
  have hU := h.1.2.1 d hd s hs
  rw [e0, e1, e2, e3]
  rcases h.1.1 d hd s hs with h0 | ⟨h0, sa, sb, ha, hb, h1, h2, h3⟩
  · have u1 := hU h0 1 (by omega) (by omega)
    have u2 := hU h0 2 (by omega) (by omega)
    have u3 := hU h0 3 (by omega) (by omega)
    rw [show 36 + 22 * d + 4 * s + 1 = 37 + 22 * d + 4 * s by omega] at u1
    rw [show 36 + 22 * d + 4 * s + 2 = 38 + 22 * d + 4 * s by omega] at u2
    rw [show 36 + 22 * d + 4 * s + 3 = 39 + 22 * d + 4 * s by omega] at u3
    exact Or.inl ⟨if_pos h0, u1, u2, u3⟩
  · exact Or.inr ⟨if_neg (by rw [h0]; decide), sa, sb, ha, hb, h1, h2, h3⟩
theorem door_or {x : Mem} {d mm B : Nat} (h : CV (x 0) mm B) (hd : d < 3) (hB : 3 * B < 2 ^ 20) : ∃ lk wr : Nat, lk ≤ 20 ∧ wr < 2 ^ 20 ∧ x 0 2 = nI lk ∧ x 0 (31 + 22 * d) = nI wr ∧
    ((lk = 0 ∧ lockS (x 0 2) (x 0 (31 + 22 * d)) = 0) ∨ (0 < lk ∧ wr < lk ∧ lockS (x 0 2) (x 0 (31 + 22 * d)) = 0) ∨ (0 < lk ∧ lk ≤ wr ∧ lockS (x 0 2) (x 0 (31 + 22 * d)) = 1)) := by
  obtain ⟨-, -, -, lk, hl, el⟩ := h.1.2.2.2.2.2.2.2
  obtain ⟨wr, hw, ew⟩ := h.1.2.2.2.2.2.1 d hd
  refine ⟨lk, wr, hl, by omega, el, ew, ?_⟩
  rw [el, ew]
  unfold lockS
  by_cases h0 : lk = 0
  · exact Or.inl ⟨h0, if_pos (by rw [h0]; decide)⟩
  · have hp : ¬ nI lk ≤ 0 := fun q => absurd ((nI_leI (a := lk) (b := 0) (by omega) (by omega)).mp q) (by omega)
    by_cases h1 : wr < lk
    · refine Or.inr (Or.inl ⟨by omega, h1, ?_⟩)
      rw [if_neg hp, if_pos ((nI_ltI (by omega) (by omega)).mpr h1)]
    · refine Or.inr (Or.inr ⟨by omega, by omega, ?_⟩)
      rw [if_neg hp, if_neg (fun q => h1 ((nI_ltI (by omega) (by omega)).mp q))]
theorem fus_or {x : Mem} {d mm nr : Nat} : ∀ f i, i + f = nr → fusS x d mm f i = -1 ∨ ∃ j, j < nr ∧ fusS x d mm f i = nI j ∧ hrR x 0 d 0 (numA x 0 (nI j)) mm = 0
  | 0, _, _ => Or.inl rfl
  | f + 1, i, e => by
    by_cases h : hrR x 0 d 0 (numA x 0 (nI i)) mm = 0
    · exact Or.inr ⟨i, by omega, fus_y h, h⟩
    · rw [fus_n h]
      exact fus_or f (i + 1) (by omega)
theorem hr0_l {x : Mem} {d mm : Nat} {num : Int32} (h : hrR x 0 d 0 num mm = 0) : ∃ s, s < 4 ∧ x 0 (36 + 22 * d + 4 * s) ≠ 0 := by
  rcases hr_or x 0 d mm num with ⟨-, r, -⟩ | ⟨-, ⟨-, r, -⟩ | ⟨s, t, hs, -, -, -, hne, -⟩⟩
  · rw [r] at h
    exact absurd h (by decide)
  · rw [r] at h
    exact absurd h (by decide)
  · exact ⟨s, hs, hne⟩
theorem use_or {x : Mem} {d mm nr : Nat} : fusS x d mm nr 0 = -1 ∨ ∃ iu ln : Nat, iu < nr ∧ fusS x d mm nr 0 = nI iu ∧ hrR x 0 d 0 (numA x 0 (nI iu)) mm = 0 ∧ 0 < ln ∧ ln ≤ 4 ∧ ps (ql x d) 4 = nI ln := by
  rcases fus_or (x := x) (d := d) (mm := mm) (nr := nr) nr 0 (by omega) with h | ⟨j, hj, e, h⟩
  · exact Or.inl h
  · obtain ⟨ln, h1, h2, h3⟩ := lrn_n x d
    exact Or.inr ⟨j, ln, hj, e, h, h3 (hr0_l h), h1, h2⟩
theorem hrl_1 {x : Mem} {d mm : Nat} {num : Int32} (h : lockS (x 0 2) (x 0 (31 + 22 * d)) = 1) : hrR x 0 d 0 num mm = 3 := (hr_3 (by rw [h]; decide)).1
theorem hrl_0 {x : Mem} {d mm : Nat} {num : Int32} (h : lockS (x 0 2) (x 0 (31 + 22 * d)) = 0) : ¬ hrR x 0 d 0 num mm = 3 := by
  rcases hr_or x 0 d mm num with ⟨hn, -, -⟩ | ⟨-, ⟨-, r, -⟩ | ⟨s, t, hs, -, -, -, hne, ⟨-, r, -⟩ | ⟨-, r, -⟩⟩⟩
  · exact absurd h hn
  · rw [r]
    decide
  · rw [r]
    decide
  · rw [r]
    decide
theorem cv_cnt {x : Mem} {mm B : Nat} (h : CV (x 0) mm B) (hB : 3 * B < 2 ^ 20) : ∃ oa os ow : Nat, oa ≤ os ∧ os + ow < 2 ^ 20 ∧ x 0 4 = nI oa ∧ ps (po x) 3 = nI os ∧ sum3 (x 0 32) (x 0 54) (x 0 76) = nI os ∧ sum3 (x 0 34) (x 0 56) (x 0 78) = nI ow := by
  obtain ⟨-, o, w, a, hO, h4, ha⟩ := h
  obtain ⟨a1, a2, a3⟩ := hO 0 (by omega)
  obtain ⟨b1, b2, b3⟩ := hO 1 (by omega)
  obtain ⟨c1, c2, c3⟩ := hO 2 (by omega)
  have e1 : sum3 (x 0 32) (x 0 54) (x 0 76) = nI (o 0 + o 1 + o 2) := by
    unfold sum3
    rw [show x 0 32 = nI (o 0) from a1, show x 0 54 = nI (o 1) from b1, show x 0 76 = nI (o 2) from c1, show (0 : Int32) = nI 0 from rfl, nI_add, nI_add, nI_add, Nat.zero_add]
  have e2 : sum3 (x 0 34) (x 0 56) (x 0 78) = nI (w 0 + w 1 + w 2) := by
    unfold sum3
    rw [show x 0 34 = nI (w 0) from a2, show x 0 56 = nI (w 1) from b2, show x 0 78 = nI (w 2) from c2, show (0 : Int32) = nI 0 from rfl, nI_add, nI_add, nI_add, Nat.zero_add]
  exact ⟨a, _, _, ha, by omega, h4, e1, e1, e2⟩
/-! ===== a share is between 0 and 1 ===== -/
theorem dc_0 {C n : Nat} (h1 : 2 ^ 52 ≤ C) {a : UInt64} (h : FP.Core.val64 a = .fin false C (-52 - (n : Int))) : FP.dcmp a FP.dconst0 = some .gt := by
  show FP.Core.order (FP.Core.val64 a) (FP.Core.val64 FP.Core.dconst0) = _
  rw [h, FP.Core.val64_dconst0]
  show some (compare (FP.Core.signed false (FP.Core.inUnits C (-52 - (n : Int)) (min (-52 - (n : Int)) FP.Core.b64.qmin))) (FP.Core.signed false (FP.Core.inUnits 0 FP.Core.b64.qmin (min (-52 - (n : Int)) FP.Core.b64.qmin)))) = _
  have hp : 0 < FP.Core.inUnits C (-52 - (n : Int)) (min (-52 - (n : Int)) FP.Core.b64.qmin) := Nat.mul_pos (by omega) (Nat.two_pow_pos _)
  have hz : FP.Core.inUnits 0 FP.Core.b64.qmin (min (-52 - (n : Int)) FP.Core.b64.qmin) = 0 := Nat.zero_mul _
  rw [hz]
  congr 1
  exact Int.compare_eq_gt.mpr (show ((0 : Nat) : Int) < ((FP.Core.inUnits C (-52 - (n : Int)) (min (-52 - (n : Int)) FP.Core.b64.qmin) : Nat) : Int) by omega)
theorem shr_ge {oa ow : Nat} (h : oa + ow < 2 ^ 20) (op : CmpOp) : ¬ Op.cmpValue (FP.dcmp (shrS oa ow) FP.dconst0) op < 0 := by
  rcases shr_ok h with e | ⟨C, n, hs⟩
  · rw [e, SH0.self (Or.inl rfl)]
    decide
  · rw [dc_0 hs.2.1 hs.1]
    show ¬ (1 : Int32) < 0
    decide
theorem shr_le {oa ow : Nat} (h : oa + ow < 2 ^ 20) : ¬ 0 < Op.cmpValue (FP.dcmp (shrS oa ow) FP.dconst1) .g := by
  rcases shr_ok h with e | ⟨C, n, hs⟩
  · rw [e, show Op.cmpValue (FP.dcmp FP.dconst0 FP.dconst1) .g = -1 by decide +kernel]
    decide
  · by_cases hn : n = 0
    · subst hn
      have hC := hs.2.2.2.2 rfl
      rw [order_f hs.2.2.1 hs.1, hC, show (((2 ^ 52 : Nat) : Nat) : Int) = ((2 ^ 52 * 2 ^ 0 : Nat) : Int) by rfl, FP.Core.compare_self_int]
      decide
    · obtain ⟨k, rfl⟩ : ∃ k, n = k + 1 := ⟨n - 1, by omega⟩
      rw [cmp_lt hs.2.2.1 hs.1]
      decide
