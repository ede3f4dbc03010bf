theorem rm_ldcw {p : Program} {l : Launch} {e : Env} {R : Room} {s : State} {m : MethodId} {args : Array Value} {below : List Frame} {meth : Method} {c : Code} {cc : ByteArray} {nL : Nat} {own : String} {ret : Option FieldType} {D : va_G} {cy : Nat → ClassId} {ad : Ads} {A : Nat → Prop} {G : Heap → Prop} {nc ns : Nat} {Q : State → Prop} {pc : Nat} {ls : List (Nat × Value)} {st : List Value} (hc : CX p s m args meth c cc nL own ret D cy ad) {i : Nat} {v : Int32} (hd : decode cc pc = .ok (.ldc_w i, 3)) (hk : Cond.constant own i v ∈ TB) (kk : RM p l e R s m args below meth c nL A G nc ns Q (pc + 3) ls (.int v :: st)) : RM p l e R s m args below meth c nL A G nc ns Q pc ls st :=
  fun H locs la hP hS hl => lv_ldcw hc.1.1 hc.1.2.1 hc.1.2.2.2.1 (hc.1.2.2.2.2 _ hk) hd (kk H locs la hP hS hl)
theorem rm_iushr {p : Program} {l : Launch} {e : Env} {R : Room} {s : State} {m : MethodId} {args : Array Value} {below : List Frame} {meth : Method} {c : Code} {cc : ByteArray} {nL : Nat} {own : String} {ret : Option FieldType} {D : va_G} {cy : Nat → ClassId} {ad : Ads} {A : Nat → Prop} {G : Heap → Prop} {nc ns : Nat} {Q : State → Prop} {pc : Nat} {ls : List (Nat × Value)} {st : List Value} (hc : CX p s m args meth c cc nL own ret D cy ad) {a b : Int32} (hd : decode cc pc = .ok (.iushr, 1)) (kk : ∀ v : Int32, v = (a.toUInt32 >>> (b.toUInt32 &&& Int32.toUInt32 31)).toInt32 → RM p l e R s m args below meth c nL A G nc ns Q (pc + 1) ls (.int v :: st)) : RM p l e R s m args below meth c nL A G nc ns Q pc ls (.int b :: .int a :: st) :=
  fun H locs la hP hS hl => lv_iushr hc.1.1 hc.1.2.1 hd rfl (kk _ rfl H locs la hP hS hl)
def ones3 (b : Nat) : Nat := b % 2 + b / 2 % 2 + b / 4 % 2
/-- the memory but for the trial door -/
def E7 (x y : Mem) : Prop := ∀ b, b ≠ 7 → y b = x b
theorem E7.rf (x : Mem) : E7 x x := fun _ _ => rfl
theorem E7.tr {x y z : Mem} (h1 : E7 x y) (h2 : E7 y z) : E7 x z := fun b hb => (h2 b hb).trans (h1 b hb)
theorem E7.flg {x y : Mem} {b : Nat} (h : E7 x y) (hb : b ≠ 7) (hF : FLG x b) : FLG y b := fun d hd => by rw [h b hb]; exact hF d hd
theorem E7.at {x y : Mem} (h : E7 x y) {b n : Nat} (hb : b ≠ 7) : y b n = x b n := by rw [h b hb]
theorem E7.hr {x y : Mem} {d d2 k k2 : Nat} {num : Int32} {mm : Nat} (hd : ∀ n, n < 22 → y k (30 + 22 * d + n) = x k2 (30 + 22 * d2 + n)) (hs : y 0 2 = x 0 2) (hw : y 0 0 = x 0 0) : hrR y k d 0 num mm = hrR x k2 d2 0 num mm := by
  have a : ∀ s n, s < 4 → n < 4 → y k (36 + n + 22 * d + 4 * s) = x k2 (36 + n + 22 * d2 + 4 * s) := fun s n h1 h2 => by
    have := hd (6 + n + 4 * s) (by omega)
    rw [show 36 + n + 22 * d + 4 * s = 30 + 22 * d + (6 + n + 4 * s) by omega, this]
    congr 1; omega
  have b : y k (31 + 22 * d) = x k2 (31 + 22 * d2) := by
    have := hd 1 (by omega)
    rw [show 31 + 22 * d = 30 + 22 * d + 1 by omega, this]
    congr 1; omega
  have st : ∀ s, s < 4 → stpS y k d s num mm = stpS x k2 d2 s num mm := fun s h => by
    unfold stpS
    rw [a s 0 h (by omega), a s 1 h (by omega), a s 2 h (by omega)]
  have hm : mean y k d num mm = mean x k2 d2 num mm := by
    unfold mean mt mt mt mt mt
    rw [st 0 (by omega), st 1 (by omega), st 2 (by omega), st 3 (by omega)]
  unfold hrR
  rw [hm, hs, b]
  split
  · rfl
  · by_cases h4 : (mean x k2 d2 num mm).1 = 4
    · rw [if_pos h4, if_pos h4]
    · rw [if_neg h4, if_neg h4]
      have hlt : (mean x k2 d2 num mm).1 < 4 := by
        unfold mean mt mt mt mt mt at h4 ⊢
        repeat' split <;> first | omega | simp_all
      have ht : takS y k d (mean x k2 d2 num mm).1 (nI (mean x k2 d2 num mm).2) (y 0 0) = takS x k2 d2 (mean x k2 d2 num mm).1 (nI (mean x k2 d2 num mm).2) (x 0 0) := by
        unfold takS
        rw [a _ 2 hlt (by omega), a _ 3 hlt (by omega), hw]
      by_cases h5 : takS x k2 d2 (mean x k2 d2 num mm).1 (nI (mean x k2 d2 num mm).2) (x 0 0)
      · rw [if_pos h5, if_pos (by rw [ht]; exact h5)]
      · rw [if_neg h5, if_neg (by rw [ht]; exact h5)]
/-- the trial door as a copy of door d -/
def triM (x : Mem) (d : Nat) : Mem := cpS x 7 30 0 (30 + 22 * d) 22
theorem tri_hr {x : Mem} {d : Nat} {num : Int32} {mm : Nat} : hrR (triM x d) 7 0 0 num mm = hrR x 0 d 0 num mm := by
  refine E7.hr (fun n hn => ?_) (cpS_b (by omega)) (cpS_b (by omega))
  unfold triM
  rw [show 30 + 22 * 0 + n = 30 + n by omega, cpS_in (by omega) (by omega)]
  congr 1; omega
theorem E7.hrd {x y : Mem} (h : E7 x y) {d : Nat} {num : Int32} {mm : Nat} : hrR y 0 d 0 num mm = hrR x 0 d 0 num mm :=
  E7.hr (fun n _ => h.at (by omega)) (h.at (by omega)) (h.at (by omega))
theorem E7.tri {x : Mem} {d : Nat} : E7 x (triM x d) := fun b hb => funext fun n => cpS_b hb
theorem E7.hrM {x : Mem} {d : Nat} {num : Int32} {mm : Nat} : E7 x (hrM x 7 d 0 num mm) := fun b hb => funext fun n => hrM_b hb
/-- how often a fob has to be pressed: over the trial door -/
def ptoS (sc : Int32) (mm : Nat) : Nat → Mem → Int32 → Nat → Int32
  | 0, _, _, _ => -1
  | f + 1, z, c, i => if hrR z 7 0 0 (nu sc (nx c)) mm = 0 then nI (i + 1) else if hrR z 7 0 0 (nu sc (nx c)) mm = 3 then -1 else ptoS sc mm f (hrM z 7 0 0 (nu sc (nx c)) mm) (nx c) (i + 1)
theorem pto_0 {sc : Int32} {mm f i : Nat} {z : Mem} {c : Int32} (h : hrR z 7 0 0 (nu sc (nx c)) mm = 0) : ptoS sc mm (f + 1) z c i = nI (i + 1) := by simp [ptoS, h]
theorem pto_3 {sc : Int32} {mm f i : Nat} {z : Mem} {c : Int32} (h : hrR z 7 0 0 (nu sc (nx c)) mm = 3) : ptoS sc mm (f + 1) z c i = -1 := by simp [ptoS, h]
theorem pto_n {sc : Int32} {mm f i : Nat} {z : Mem} {c : Int32} (h : ¬ hrR z 7 0 0 (nu sc (nx c)) mm = 0) (h3 : ¬ hrR z 7 0 0 (nu sc (nx c)) mm = 3) : ptoS sc mm (f + 1) z c i = ptoS sc mm f (hrM z 7 0 0 (nu sc (nx c)) mm) (nx c) (i + 1) := by simp [ptoS, h, h3]
def munS (x : Mem) (d : Nat) (sc : Int32) (mm : Nat) : Nat → Int32 → Nat → Int32 → Int32
  | 0, _, _, r => r
  | f + 1, c, i, r => if hrR x 0 d 0 (nu sc (nx c)) mm = 0 then munS x d sc mm f (nx c) (i + 1) (nI i) else r
theorem mun_y {x : Mem} {d : Nat} {sc : Int32} {mm f i : Nat} {c r : Int32} (h : hrR x 0 d 0 (nu sc (nx c)) mm = 0) : munS x d sc mm (f + 1) c i r = munS x d sc mm f (nx c) (i + 1) (nI i) := by simp [munS, h]
theorem mun_n {x : Mem} {d : Nat} {sc : Int32} {mm f i : Nat} {c r : Int32} (h : ¬ hrR x 0 d 0 (nu sc (nx c)) mm = 0) : munS x d sc mm (f + 1) c i r = r := by simp [munS, h]
def fusS (x : Mem) (d mm : Nat) : Nat → Nat → Int32
  | 0, _ => -1
  | f + 1, i => if hrR x 0 d 0 (numA x 0 (nI i)) mm = 0 then nI i else fusS x d mm f (i + 1)
theorem fus_y {x : Mem} {d mm f i : Nat} (h : hrR x 0 d 0 (numA x 0 (nI i)) mm = 0) : fusS x d mm (f + 1) i = nI i := by simp [fusS, h]
theorem fus_n {x : Mem} {d mm f i : Nat} (h : ¬ hrR x 0 d 0 (numA x 0 (nI i)) mm = 0) : fusS x d mm (f + 1) i = fusS x d mm f (i + 1) := by simp [fusS, h]
theorem E7.num {x y : Mem} (h : E7 x y) {q : Int32} : numA y 0 q = numA x 0 q := by
  unfold numA
  rw [h.at (by omega)]
  split
  · rfl
  · split
    · rfl
    · split
      · rfl
      · rw [h.at (by omega)]
def cntS (x : Mem) (w : Int32) : Int32 := if w = 0 then sum4 (x 0 17) (x 0 21) (x 0 25) (x 0 29) else if w = 1 then x 0 3 else if w = 2 then sum3 (x 0 32) (x 0 54) (x 0 76) else if w = 3 then x 0 4 else if w = 4 then sum3 (b2 (x 0 30)) (b2 (x 0 52)) (b2 (x 0 74)) else if w = 5 then sum3 (b2 (lockS (x 0 2) (x 0 31))) (b2 (lockS (x 0 2) (x 0 53))) (b2 (lockS (x 0 2) (x 0 75))) else if w = 6 then x 0 5 else if w = 7 then x 8 1 else -1
/-- a recorded number is sent again -/
def agnS (x : Mem) (ii : Nat) (msk : Int32) (mm : Nat) : Int32 × Mem :=
  ((sendS (up x 0 3 (x 0 3 + 1)) 0 msk (numA (up x 0 3 (x 0 3 + 1)) 0 (nI ii)) mm 3).1, up (sendS (up x 0 3 (x 0 3 + 1)) 0 msk (numA (up x 0 3 (x 0 3 + 1)) 0 (nI ii)) mm 3).2 0 4 ((sendS (up x 0 3 (x 0 3 + 1)) 0 msk (numA (up x 0 3 (x 0 3 + 1)) 0 (nI ii)) mm 3).2 0 4 + nI (ones3 (sendS (up x 0 3 (x 0 3 + 1)) 0 msk (numA (up x 0 3 (x 0 3 + 1)) 0 (nI ii)) mm 3).1.toNatClampNeg)))
theorem send_8 {x : Mem} {k : Nat} {msk num : Int32} {mm : Nat} : ∃ b, b < 8 ∧ (sendS x k msk num mm 3).1 = nI b := by
  have h0 : (sendS x k msk num mm 0).1 = 0 := rfl
  have h1 : (sendS x k msk num mm 1).1 = 0 ∨ (sendS x k msk num mm 1).1 = 1 := by
    unfold sendS
    split
    · show (if _ then _ else _) = _ ∨ (if _ then _ else _) = _
      split
      · rw [h0]; exact Or.inr (by decide)
      · exact Or.inl h0
    · exact Or.inl h0
  have h2 : (sendS x k msk num mm 2).1 = 0 ∨ (sendS x k msk num mm 2).1 = 1 ∨ (sendS x k msk num mm 2).1 = 2 ∨ (sendS x k msk num mm 2).1 = 3 := by
    unfold sendS
    split
    · show (if _ then _ else _) = _ ∨ (if _ then _ else _) = _ ∨ (if _ then _ else _) = _ ∨ (if _ then _ else _) = _
      split
      · rcases h1 with h | h <;> rw [h]
        · exact Or.inr (Or.inr (Or.inl (by decide)))
        · exact Or.inr (Or.inr (Or.inr (by decide)))
      · rcases h1 with h | h
        · exact Or.inl h
        · exact Or.inr (Or.inl h)
    · rcases h1 with h | h
      · exact Or.inl h
      · exact Or.inr (Or.inl h)
  unfold sendS
  split
  · dsimp only
    split
    · rcases h2 with h | h | h | h <;> rw [h]
      · exact ⟨4, by omega, by decide⟩
      · exact ⟨5, by omega, by decide⟩
      · exact ⟨6, by omega, by decide⟩
      · exact ⟨7, by omega, by decide⟩
    · rcases h2 with h | h | h | h
      · exact ⟨0, by omega, h⟩
      · exact ⟨1, by omega, h⟩
      · exact ⟨2, by omega, h⟩
      · exact ⟨3, by omega, h⟩
  · rcases h2 with h | h | h | h
    · exact ⟨0, by omega, h⟩
    · exact ⟨1, by omega, h⟩
    · exact ⟨2, by omega, h⟩
    · exact ⟨3, by omega, h⟩
theorem min50 {nb : Nat} (h : nb < 2 ^ 20) : (if nI nb < 50 then nI nb else 50) = nI (if nb < 50 then nb else 50) := by
  have e50 : (50 : Int32) = nI 50 := rfl
  rw [e50]
  by_cases h5 : nb < 50
  · rw [if_pos h5, if_pos ((nI_ltI (a := nb) (b := 50) (by omega) (by omega)).mpr h5)]
  · rw [if_neg h5, if_neg (fun q => h5 ((nI_ltI (a := nb) (b := 50) (by omega) (by omega)).mp q))]
