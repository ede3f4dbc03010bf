/-- alike on the trial door and on the settings -/
def PT (z w0 : Mem) : Prop := (∀ n, n < 22 → z 7 (30 + n) = w0 7 (30 + n)) ∧ z 0 0 = w0 0 0 ∧ z 0 2 = w0 0 2
theorem PT.upq {z w0 : Mem} {i : Nat} {v v' : Int32} (h : PT z w0) (hv : v = v') : PT (up z 7 i v) (up w0 7 i v') := by
  subst hv
  refine ⟨fun n hn => ?_, ?_, ?_⟩
  · by_cases hi : 30 + n = i
    · rw [hi, up_s, up_s]
    · rw [up_n _ _ hi, up_n _ _ hi]; exact h.1 n hn
  · rw [up_b _ _ _ (by omega), up_b _ _ _ (by omega)]; exact h.2.1
  · rw [up_b _ _ _ (by omega), up_b _ _ _ (by omega)]; exact h.2.2
theorem PT.a {z w0 : Mem} (h : PT z w0) {n : Nat} (h1 : 30 ≤ n) (h2 : n < 52) : z 7 n = w0 7 n := by
  have := h.1 (n - 30) (by omega)
  rwa [show 30 + (n - 30) = n by omega] at this
theorem PT.hrq {z w0 : Mem} {num : Int32} {mm : Nat} (h : PT z w0) : hrR z 7 0 0 num mm = hrR w0 7 0 0 num mm :=
  E7.hr (fun n hn => by rw [show 30 + 22 * 0 + n = 30 + n by omega]; exact h.1 n hn) h.2.2 h.2.1
theorem PT.mnq {z w0 : Mem} {num : Int32} {mm : Nat} (h : PT z w0) : mean z 7 0 num mm = mean w0 7 0 num mm := by
  have st : ∀ s, s < 4 → stpS z 7 0 s num mm = stpS w0 7 0 s num mm := fun s hs => by
    unfold stpS
    rw [h.a (n := 36 + 22 * 0 + 4 * s) (by omega) (by omega), h.a (n := 37 + 22 * 0 + 4 * s) (by omega) (by omega), h.a (n := 38 + 22 * 0 + 4 * s) (by omega) (by omega)]
  unfold mean mt mt mt mt mt
  rw [st 0 (by omega), st 1 (by omega), st 2 (by omega), st 3 (by omega)]
theorem mean_lt {x : Mem} {k d : Nat} {num : Int32} {mm : Nat} (h4 : ¬ (mean x k d num mm).1 = 4) : (mean x k d num mm).1 < 4 := by
  unfold mean mt mt mt mt mt at h4 ⊢
  repeat' split <;> first | omega | simp_all
theorem PT.hMq {z w0 : Mem} {num : Int32} {mm : Nat} (h : PT z w0) : PT (hrM z 7 0 0 num mm) (hrM w0 7 0 0 num mm) := by
  unfold hrM
  rw [h.mnq, h.2.2, h.a (n := 31 + 22 * 0) (by omega) (by omega)]
  split
  · exact h.upq (by rw [h.a (n := 35 + 22 * 0) (by omega) (by omega)])
  · split
    · exact (h.upq rfl).upq (by rw [h.a (n := 34 + 22 * 0) (by omega) (by omega)])
    · rename_i h4
      have hlt := mean_lt h4
      have e2 := h.a (n := 38 + 22 * 0 + 4 * (mean w0 7 0 num mm).1) (by omega) (by omega)
      have e3 := h.a (n := 39 + 22 * 0 + 4 * (mean w0 7 0 num mm).1) (by omega) (by omega)
      have ht : takS z 7 0 (mean w0 7 0 num mm).1 (nI (mean w0 7 0 num mm).2) (z 0 0) = takS w0 7 0 (mean w0 7 0 num mm).1 (nI (mean w0 7 0 num mm).2) (w0 0 0) := by
        unfold takS
        rw [e2, e3, h.2.1]
      by_cases h5 : takS w0 7 0 (mean w0 7 0 num mm).1 (nI (mean w0 7 0 num mm).2) (w0 0 0)
      · rw [if_pos h5, if_pos (by rw [ht]; exact h5)]
        have h6 : PT (tak1 z 7 0 (mean w0 7 0 num mm).1 (nI (mean w0 7 0 num mm).2)) (tak1 w0 7 0 (mean w0 7 0 num mm).1 (nI (mean w0 7 0 num mm).2)) := by
          unfold tak1
          exact (h.upq (by rw [e2])).upq rfl
        unfold opnM
        exact ((h6.upq rfl).upq (by rw [h6.a (n := 32 + 22 * 0) (by omega) (by omega)])).upq rfl
      · rw [if_neg h5, if_neg (by rw [ht]; exact h5)]
        unfold tak0
        exact (h.upq (by rw [e2])).upq (by rw [h.a (n := 33 + 22 * 0) (by omega) (by omega)])
theorem pto_congr {sc : Int32} {mm : Nat} : ∀ (f : Nat) (z w0 : Mem) (c : Int32) (i : Nat), PT z w0 → ptoS sc mm f z c i = ptoS sc mm f w0 c i
  | 0, _, _, _, _, _ => rfl
  | f + 1, z, w0, c, i, h => by
    unfold ptoS
    rw [h.hrq, pto_congr f _ _ (nx c) (i + 1) h.hMq]
theorem E7.PT {x y : Mem} (h : E7 x y) {d : Nat} : PT (triM y d) (triM x d) := by
  refine ⟨fun n hn => ?_, ?_, ?_⟩
  · unfold triM
    rw [cpS_in (by omega) (by omega), cpS_in (by omega) (by omega)]
    exact h.at (by omega)
  · unfold triM
    rw [cpS_b (by omega), cpS_b (by omega)]
    exact h.at (by omega)
  · unfold triM
    rw [cpS_b (by omega), cpS_b (by omega)]
    exact h.at (by omega)
theorem E7.pto {x y : Mem} (h : E7 x y) {d mm f i a b : Nat} : ptoS (y 0 a) mm f (triM y d) (y 0 b) i = ptoS (x 0 a) mm f (triM x d) (x 0 b) i := by
  rw [h.at (b := 0) (by omega), h.at (b := 0) (by omega)]
  exact pto_congr f _ _ _ _ h.PT
theorem mun_congr {x y : Mem} (h : E7 x y) {d mm : Nat} {sc : Int32} : ∀ (f : Nat) (c : Int32) (i : Nat) (r : Int32), munS y d sc mm f c i r = munS x d sc mm f c i r
  | 0, _, _, _ => rfl
  | f + 1, c, i, r => by
    unfold munS
    rw [h.hrd, mun_congr h f]
theorem E7.mun {x y : Mem} (h : E7 x y) {d mm f i a b : Nat} {r : Int32} : munS y d (y 0 a) mm f (y 0 b) i r = munS x d (x 0 a) mm f (x 0 b) i r := by
  rw [h.at (b := 0) (by omega), h.at (b := 0) (by omega)]
  exact mun_congr h f _ _ _
theorem fus_congr {x y : Mem} (h : E7 x y) {d mm : Nat} : ∀ (f i : Nat), fusS y d mm f i = fusS x d mm f i
  | 0, _ => rfl
  | f + 1, i => by
    unfold fusS
    rw [h.hrd, h.num, fus_congr h f]
def hsh (h : Int64) : List Int32 → Int64
  | [] => h
  | v :: t => hsh (31 * h + v.toInt64) t
theorem hsh_app (h : Int64) : ∀ (a b : List Int32), hsh h (a ++ b) = hsh (hsh h a) b
  | [], _ => rfl
  | v :: t, b => hsh_app (31 * h + v.toInt64) t b
def ptoX (x : Mem) (j d mm nb : Nat) : Int32 := ptoS (x 0 (14 + 4 * j)) mm (if nb < 50 then nb else 50) (triM x d) (x 0 (15 + 4 * j)) 0
def munX (x : Mem) (j d mm : Nat) : Int32 := munS x d (x 0 (14 + 4 * j)) mm 100 (x 0 (15 + 4 * j)) 0 (-1)
def dorL (x : Mem) (d mm nr : Nat) (nb : Nat → Nat) : List Int32 :=
  [lookDoor x 0 d (x 0 2) 0, lookDoor x 0 d (x 0 2) 1, lookDoor x 0 d (x 0 2) 2, lookDoor x 0 d (x 0 2) 3, lookDoor x 0 d (x 0 2) 4, lookDoor x 0 d (x 0 2) 5, lookDoor x 0 d (x 0 2) 6, lookDoor x 0 d (x 0 2) 7,
   lookSlot x 0 d 0 0, lookSlot x 0 d 0 1, lookSlot x 0 d 0 2, lookSlot x 0 d 0 3, lookSlot x 0 d 1 0, lookSlot x 0 d 1 1, lookSlot x 0 d 1 2, lookSlot x 0 d 1 3,
   lookSlot x 0 d 2 0, lookSlot x 0 d 2 1, lookSlot x 0 d 2 2, lookSlot x 0 d 2 3, lookSlot x 0 d 3 0, lookSlot x 0 d 3 1, lookSlot x 0 d 3 2, lookSlot x 0 d 3 3,
   fusS x d mm nr 0, ptoX x 0 d mm (nb 0), munX x 0 d mm, ptoX x 1 d mm (nb 1), munX x 1 d mm, ptoX x 2 d mm (nb 2), munX x 2 d mm, ptoX x 3 d mm (nb 3), munX x 3 d mm]
