def canS (b : Int32) : Int32 := if b ≤ 0 then 0 else 1
def b2 (v : Int32) : Int32 := if v = 0 then 0 else 1
/-- a number is sent to the doors 0 .. n - 1 of a set: which opened, and the memory -/
def sendS (x : Mem) (k : Nat) (msk num : Int32) (mm : Nat) : Nat → Int32 × Mem
  | 0 => (0, x)
  | d + 1 => if (msk >>> (nI d &&& 31)) &&& 1 = 1 then (if hrR (sendS x k msk num mm d).2 k d k num mm = 0 then (sendS x k msk num mm d).1 ||| (1 <<< (nI d &&& 31)) else (sendS x k msk num mm d).1, hrM (sendS x k msk num mm d).2 k d k num mm) else sendS x k msk num mm d
theorem hrM_lo {x : Mem} {k d k2 n : Nat} {num : Int32} {mm : Nat} (hn : n < 30) : hrM x k d k2 num mm k n = x k n := by
  have e : ∀ (z : Mem) (i : Nat) (v : Int32), n < i → up z k i v k n = z k n := fun z i v h => up_n _ _ (by omega)
  unfold hrM
  split
  · rw [e _ _ _ (by omega)]
  · split
    · rw [e _ _ _ (by omega), e _ _ _ (by omega)]
    · split
      · unfold opnM tak1
        rw [e _ _ _ (by omega), e _ _ _ (by omega), e _ _ _ (by omega), e _ _ _ (by omega), e _ _ _ (by omega)]
      · unfold tak0
        rw [e _ _ _ (by omega), e _ _ _ (by omega)]
theorem hrM_b {x : Mem} {k d k2 b n : Nat} {num : Int32} {mm : Nat} (hb : b ≠ k) : hrM x k d k2 num mm b n = x b n := by
  have e : ∀ (z : Mem) (i : Nat) (v : Int32), up z k i v b n = z b n := fun z i v => up_b _ _ _ hb
  unfold hrM
  split
  · rw [e]
  · split
    · rw [e, e]
    · split
      · unfold opnM tak1
        rw [e, e, e, e, e]
      · unfold tak0
        rw [e, e]
theorem sendS_lo {x : Mem} {k : Nat} {msk num : Int32} {mm n : Nat} (hn : n < 30) : ∀ d, (sendS x k msk num mm d).2 k n = x k n
  | 0 => rfl
  | d + 1 => by
    unfold sendS
    split
    · exact (hrM_lo hn).trans (sendS_lo hn d)
    · exact sendS_lo hn d
theorem sendS_b {x : Mem} {k b n : Nat} {msk num : Int32} {mm : Nat} (hb : b ≠ k) : ∀ d, (sendS x k msk num mm d).2 b n = x b n
  | 0 => rfl
  | d + 1 => by
    unfold sendS
    split
    · exact (hrM_b hb).trans (sendS_b hb d)
    · exact sendS_b hb d
theorem sendS_y {x : Mem} {k d : Nat} {msk num : Int32} {mm : Nat} (h : (msk >>> (nI d &&& 31)) &&& 1 = 1) : sendS x k msk num mm (d + 1) = (if hrR (sendS x k msk num mm d).2 k d k num mm = 0 then (sendS x k msk num mm d).1 ||| (1 <<< (nI d &&& 31)) else (sendS x k msk num mm d).1, hrM (sendS x k msk num mm d).2 k d k num mm) := by
  conv => lhs; unfold sendS
  rw [if_pos h]
theorem sendS_n {x : Mem} {k d : Nat} {msk num : Int32} {mm : Nat} (h : ¬ (msk >>> (nI d &&& 31)) &&& 1 = 1) : sendS x k msk num mm (d + 1) = sendS x k msk num mm d := by
  conv => lhs; unfold sendS
  rw [if_neg h]
/-- the number of a fob's next press -/
def nxtN (x : Mem) (k j : Nat) : Int32 := nu (x k (14 + 4 * j)) (nx (x k (15 + 4 * j)))
def prsS (x : Mem) (k j : Nat) (msk : Int32) (mm : Nat) : Int32 × Mem := sendS (recF (sndF x k j) k (nxtN x k j)) k msk (nxtN x k j) mm 3
theorem recF_1 {x : Mem} {k : Nat} {v : Int32} : recF x k v k 1 = x k 1 := by simp [recF, up, shA]
theorem sndF_1 {x : Mem} {k j : Nat} : sndF x k j k 1 = x k 1 := by
  unfold sndF
  rw [up_n _ _ (by omega), up_n _ _ (by omega), up_n _ _ (by omega)]
def sum4 (a b c d : Int32) : Int32 := 0 + a + b + c + d
def sum3 (a b c : Int32) : Int32 := 0 + a + b + c
/-- the ring's next place: a count of which nq is the rest by 6 -/
def NXT (x : Mem) (nq lo : Nat) : Prop := ∃ w : Nat, w < 2 ^ 20 ∧ lo ≤ w ∧ w % 6 = nq ∧ x 8 0 = nI w
def kpM (x : Mem) (nq : Nat) : Mem := up (up (cpS x (nq + 1) 0 0 0 96) 8 0 (x 8 0 + 1)) 8 1 (if 6 < x 8 1 + 1 then 6 else x 8 1 + 1)
def rsM (x : Mem) (nq : Nat) : Mem := cpS (up (up x 8 0 (x 8 0 - 1)) 8 1 (x 8 1 - 1)) 0 0 ((nq + 5) % 6 + 1) 0 96
-- the text
def inPartS (c : Int32) : Int32 := if c = 99 then 3 else if c = 102 then 1 else if c = 114 then 2 else 8
def inSetS (c lo : Int32) : Int32 := if c - 48 < lo then 8 else if 3 ≤ c - 48 then 8 else 5 + (c - 48)
def expS (e c : Int32) : Int32 := if e = 0 then inPartS c else if e = 1 then (if c < 48 then 8 else if 51 < c then 8 else 4) else if e = 2 then (if c < 48 then 8 else if 55 < c then 8 else 4) else if e = 3 then (if c < 48 then 8 else if 50 < c then 8 else 7) else if e = 4 then (if c = 45 then 7 else inSetS c 0) else if e = 8 then 8 else if c = 59 then 0 else inSetS c (e - 5 + 1)
def codeS (x : Mem) (a : Int32) : Int32 := if a < 0 then -1 else if x 8 2 ≤ a then -1 else if 60 ≤ a then -1 else x 9 a.toNatClampNeg
def digS (x : Mem) (a : Int32) : Int32 := if codeS x a < 48 then -1 else if 57 < codeS x a then -1 else codeS x a - 48
def glS (x : Mem) : Nat → Int32 → Nat → Nat
  | 0, _, i => i
  | f + 1, e, i => if expS e (codeS x (nI i)) = 8 then i else glS x f (expS e (codeS x (nI i))) (i + 1)
def feS (x : Mem) : Nat → Int32 → Nat → Int32
  | 0, e, _ => e
  | f + 1, e, i => feS x f (expS e (codeS x (nI i))) (i + 1)
def compS (e : Int32) : Int32 := if e < 5 then 0 else if 7 < e then 0 else 1
def endS (x : Mem) (a : Int32) : Int32 := if a = x 8 2 then 1 else if codeS x a = 59 then 1 else 0
def mkS (x : Mem) : Nat → Nat → Int32 → Int32
  | 0, _, v => v
  | f + 1, i, v => mkS x f (i + 1) (if digS x (nI i) < 0 then v else if 3 ≤ digS x (nI i) then v else v ||| (1 <<< (digS x (nI i) &&& 31)))
theorem glS_y {x : Mem} {f i : Nat} {e : Int32} (h : expS e (codeS x (nI i)) = 8) : glS x (f + 1) e i = i := by simp [glS, h]
theorem glS_n {x : Mem} {f i : Nat} {e : Int32} (h : ¬ expS e (codeS x (nI i)) = 8) : glS x (f + 1) e i = glS x f (expS e (codeS x (nI i))) (i + 1) := by simp [glS, h]
theorem mk_1 {x : Mem} {f i : Nat} {v : Int32} (h : digS x (nI i) < 0) : mkS x (f + 1) i v = mkS x f (i + 1) v := by simp [mkS, h]
theorem mk_2 {x : Mem} {f i : Nat} {v : Int32} (h : ¬ digS x (nI i) < 0) (h2 : 3 ≤ digS x (nI i)) : mkS x (f + 1) i v = mkS x f (i + 1) v := by simp only [mkS, if_neg h, if_pos h2]
theorem mk_3 {x : Mem} {f i : Nat} {v : Int32} (h : ¬ digS x (nI i) < 0) (h2 : ¬ 3 ≤ digS x (nI i)) : mkS x (f + 1) i v = mkS x f (i + 1) (v ||| (1 <<< (digS x (nI i) &&& 31))) := by simp only [mkS, if_neg h, if_neg h2]
theorem xor6 {n : Nat} (h : n < 2 ^ 20) : 0 ≤ nI n ^^^ 6 := by
  rw [Int32.le_iff_toInt_le]
  have e : (nI n ^^^ 6).toInt = (nI n ^^^ 6).toBitVec.toInt := rfl
  have hm : (nI n).toBitVec.msb = false := by
    rw [BitVec.msb_eq_toInt]
    have e2 : (nI n).toBitVec.toInt = (nI n).toInt := rfl
    rw [e2, nI_toInt (by omega)]
    exact decide_eq_false (by omega)
  have hx : (nI n ^^^ 6).toBitVec.msb = false := by
    rw [Int32.toBitVec_xor, BitVec.msb_xor, hm]
    decide
  rw [BitVec.msb_eq_toInt] at hx
  have h0 := of_decide_eq_false hx
  rw [e]
  have z : (0 : Int32).toInt = 0 := by decide
  omega
theorem irem6 {n : Nat} (h : n < 2 ^ 20) : nI n - nI n / 6 * 6 = nI (n % 6) := pk_rem (d := 6) (by omega) (by omega) (by omega)
theorem FLG_up {x : Mem} {b b' n : Nat} {v : Int32} (hb : b ≠ b') (h : FLG x b) : FLG (up x b' n v) b := by
  intro d hd
  refine ⟨?_, fun s hs => ?_⟩
  · rw [up_b _ _ _ hb]; exact (h d hd).1
  · rw [up_b _ _ _ hb]; exact (h d hd).2 s hs
theorem b2_0 {v : Int32} (h : v = 0) : b2 v = 0 := by rw [h]; rfl
theorem b2_1 {v : Int32} (h : ¬ v = 0) : b2 v = 1 := if_neg h
theorem sum3_of {a b c a' b' c' r : Int32} (ha : a = a') (hb : b = b') (hc : c = c') (h : r = sum3 a' b' c') : r = sum3 a b c := by rw [ha, hb, hc]; exact h
/-- the same for a member that the machine has no entry for, of a class that has entries -/
theorem rm_entryF {l : Launch} {y : MethodName} {cc : ByteArray} {nL : Nat} {ret : Option FieldType} {rm : Room} {D : va_G} {cy : Nat → ClassId} {ad : Ads} {As : List Value} {x : Mem} {Qc : (Nat → Prop) → Array Value → State → Outcome → State → Prop} (hI : IJ ad) (hy : plainFor y = true) (hl : (lg_sl As).length ≤ nL)
    (body : ∀ p e s m args below meth c, CX p s m args meth c cc nL y.cls ret D cy ad → RM p l e rm s m args below meth c nL (AA ad s.heap.size) (GG D cy ad x) 0 0 (QQ Qc below args s ad) 0 (lv_args 0 As) []) (sz : Nat) :
    Met l y (.code y cc nL ret :: TB) rm (va_Pc As (fun U => U.heap.size = sz ∧ va_P D vwCl (wl cy ad x) U.heap ∧ va_K D vwCl (tys cy) U ∧ NW U)) (Qc (AA ad sz)) 0 0 (AA ad sz) := by
  refine va_MetF (cc := cc) (maxL := nL) (ret := ret) hy rfl ?_
  intro p e s m args below meth c s₁ B hml hv
  obtain ⟨rfl, hsz, hP, hK, hN⟩ := hv
  subst hsz
  have hts := atoms_spec (ws := .code y cc nL ret :: TB) B.pre
  have hc : CX p s m As.toArray meth c cc nL y.cls ret D cy ad := ⟨⟨B.exec, B.bytes, hml, findClass_of_methodNamed B.named, fun w h => hts w (List.mem_cons_of_mem _ h)⟩, B.returns, B.notSynchronized, hK, hI, hN⟩
  have h := body p e s m As.toArray below meth c hc
  rw [lg_entry_eq]
  exact h s.heap [] _ hP va_S.rf (lv_entry As hl)
