/-! ===== small rows that the generated walks use ===== -/
theorem rm_nm {p : Program} {l : Launch} {e : Env} {R : Room} {s : State} {m : MethodId} {args : Array Value} {below : List Frame} {meth : Method} {c : Code} {nL : Nat} {D : va_G} {cy : Nat → ClassId} {ad : Ads} {A : Nat → Prop} {nc ns : Nat} {Q : State → Prop} {y : Mem} {pc : Nat} {ls : List (Nat × Value)} {st : List Value} (h : ∀ z : Mem, z = y → RM p l e R s m args below meth c nL A (GG D cy ad z) nc ns Q pc ls st) : RM p l e R s m args below meth c nL A (GG D cy ad y) nc ns Q pc ls st := h y rfl
theorem nadd {m n q : Nat} (h : m + n = q) : nI m + nI n = nI q := by rw [nI_add, h]
theorem nmul {m n q : Nat} (h : m * n = q) : nI m * nI n = nI q := by rw [pk_mul, h]
theorem nIi (a : Nat) : nI a + Int32.ofInt 1 = nI (a + 1) := nI_1 a
theorem nrb {v : Int32} (h : v = 0 ∨ v = 1) : narrow .boolean (.int v) = .int v := by rcases h with rfl | rfl <;> rfl
theorem ftb {v : Int32} (h : v = 0 ∨ v = 1) : fits .boolean (.int v) = true := by rcases h with rfl | rfl <;> rfl
theorem ft_0_1 : ∀ q : vw_C, vwCl[0]? = some q → (q.2.1 1).2.2.2 = false ∧ parseFieldDescriptor (q.2.1 1).2.2.1 = some .int := fun q hq => by
  obtain rfl := Option.some.inj hq
  exact ⟨rfl, by decide +kernel⟩
theorem ft_1_1 : ∀ q : vw_C, vwCl[1]? = some q → (q.2.1 1).2.2.2 = false ∧ parseFieldDescriptor (q.2.1 1).2.2.1 = some .boolean := fun q hq => by
  obtain rfl := Option.some.inj hq
  exact ⟨rfl, by decide +kernel⟩
theorem ft_1_2 : ∀ q : vw_C, vwCl[1]? = some q → (q.2.1 2).2.2.2 = false ∧ parseFieldDescriptor (q.2.1 2).2.2.1 = some .int := fun q hq => by
  obtain rfl := Option.some.inj hq
  exact ⟨rfl, by decide +kernel⟩
theorem ft_1_3 : ∀ q : vw_C, vwCl[1]? = some q → (q.2.1 3).2.2.2 = false ∧ parseFieldDescriptor (q.2.1 3).2.2.1 = some .int := fun q hq => by
  obtain rfl := Option.some.inj hq
  exact ⟨rfl, by decide +kernel⟩
theorem ft_1_4 : ∀ q : vw_C, vwCl[1]? = some q → (q.2.1 4).2.2.2 = false ∧ parseFieldDescriptor (q.2.1 4).2.2.1 = some .int := fun q hq => by
  obtain rfl := Option.some.inj hq
  exact ⟨rfl, by decide +kernel⟩
theorem ft_1_5 : ∀ q : vw_C, vwCl[1]? = some q → (q.2.1 5).2.2.2 = false ∧ parseFieldDescriptor (q.2.1 5).2.2.1 = some .int := fun q hq => by
  obtain rfl := Option.some.inj hq
  exact ⟨rfl, by decide +kernel⟩
theorem ft_1_6 : ∀ q : vw_C, vwCl[1]? = some q → (q.2.1 6).2.2.2 = false ∧ parseFieldDescriptor (q.2.1 6).2.2.1 = some .int := fun q hq => by
  obtain rfl := Option.some.inj hq
  exact ⟨rfl, by decide +kernel⟩
theorem ft_2_0 : ∀ q : vw_C, vwCl[2]? = some q → (q.2.1 0).2.2.2 = false ∧ parseFieldDescriptor (q.2.1 0).2.2.1 = some .int := fun q hq => by
  obtain rfl := Option.some.inj hq
  exact ⟨rfl, by decide +kernel⟩
theorem ft_2_1 : ∀ q : vw_C, vwCl[2]? = some q → (q.2.1 1).2.2.2 = false ∧ parseFieldDescriptor (q.2.1 1).2.2.1 = some .int := fun q hq => by
  obtain rfl := Option.some.inj hq
  exact ⟨rfl, by decide +kernel⟩
theorem ft_2_2 : ∀ q : vw_C, vwCl[2]? = some q → (q.2.1 2).2.2.2 = false ∧ parseFieldDescriptor (q.2.1 2).2.2.1 = some .int := fun q hq => by
  obtain rfl := Option.some.inj hq
  exact ⟨rfl, by decide +kernel⟩
theorem ft_2_3 : ∀ q : vw_C, vwCl[2]? = some q → (q.2.1 3).2.2.2 = false ∧ parseFieldDescriptor (q.2.1 3).2.2.1 = some .int := fun q hq => by
  obtain rfl := Option.some.inj hq
  exact ⟨rfl, by decide +kernel⟩
theorem ft_3_1 : ∀ q : vw_C, vwCl[3]? = some q → (q.2.1 1).2.2.2 = false ∧ parseFieldDescriptor (q.2.1 1).2.2.1 = some .int := fun q hq => by
  obtain rfl := Option.some.inj hq
  exact ⟨rfl, by decide +kernel⟩
theorem ft_3_2 : ∀ q : vw_C, vwCl[3]? = some q → (q.2.1 2).2.2.2 = false ∧ parseFieldDescriptor (q.2.1 2).2.2.1 = some .int := fun q hq => by
  obtain rfl := Option.some.inj hq
  exact ⟨rfl, by decide +kernel⟩
theorem ft_4_0 : ∀ q : vw_C, vwCl[4]? = some q → (q.2.1 0).2.2.2 = false ∧ parseFieldDescriptor (q.2.1 0).2.2.1 = some .int := fun q hq => by
  obtain rfl := Option.some.inj hq
  exact ⟨rfl, by decide +kernel⟩
theorem ft_4_1 : ∀ q : vw_C, vwCl[4]? = some q → (q.2.1 1).2.2.2 = false ∧ parseFieldDescriptor (q.2.1 1).2.2.1 = some .int := fun q hq => by
  obtain rfl := Option.some.inj hq
  exact ⟨rfl, by decide +kernel⟩
theorem ft_4_2 : ∀ q : vw_C, vwCl[4]? = some q → (q.2.1 2).2.2.2 = false ∧ parseFieldDescriptor (q.2.1 2).2.2.1 = some .int := fun q hq => by
  obtain rfl := Option.some.inj hq
  exact ⟨rfl, by decide +kernel⟩
theorem ft_5_0 : ∀ q : vw_C, vwCl[5]? = some q → (q.2.1 0).2.2.2 = false ∧ parseFieldDescriptor (q.2.1 0).2.2.1 = some .boolean := fun q hq => by
  obtain rfl := Option.some.inj hq
  exact ⟨rfl, by decide +kernel⟩
theorem ft_5_1 : ∀ q : vw_C, vwCl[5]? = some q → (q.2.1 1).2.2.2 = false ∧ parseFieldDescriptor (q.2.1 1).2.2.1 = some .int := fun q hq => by
  obtain rfl := Option.some.inj hq
  exact ⟨rfl, by decide +kernel⟩
theorem ft_5_2 : ∀ q : vw_C, vwCl[5]? = some q → (q.2.1 2).2.2.2 = false ∧ parseFieldDescriptor (q.2.1 2).2.2.1 = some .int := fun q hq => by
  obtain rfl := Option.some.inj hq
  exact ⟨rfl, by decide +kernel⟩
theorem ft_5_3 : ∀ q : vw_C, vwCl[5]? = some q → (q.2.1 3).2.2.2 = false ∧ parseFieldDescriptor (q.2.1 3).2.2.1 = some .int := fun q hq => by
  obtain rfl := Option.some.inj hq
  exact ⟨rfl, by decide +kernel⟩
theorem ft_6_4 : ∀ q : vw_C, vwCl[6]? = some q → (q.2.1 4).2.2.2 = false ∧ parseFieldDescriptor (q.2.1 4).2.2.1 = some .int := fun q hq => by
  obtain rfl := Option.some.inj hq
  exact ⟨rfl, by decide +kernel⟩
theorem ft_6_5 : ∀ q : vw_C, vwCl[6]? = some q → (q.2.1 5).2.2.2 = false ∧ parseFieldDescriptor (q.2.1 5).2.2.1 = some .int := fun q hq => by
  obtain rfl := Option.some.inj hq
  exact ⟨rfl, by decide +kernel⟩
theorem ft_7_1 : ∀ q : vw_C, vwCl[7]? = some q → (q.2.1 1).2.2.2 = false ∧ parseFieldDescriptor (q.2.1 1).2.2.1 = some .int := fun q hq => by
  obtain rfl := Option.some.inj hq
  exact ⟨rfl, by decide +kernel⟩
def MMin (own : String) (index : Nat) : Prop := Cond.methodLink own index Lib.Math.min.name ∈ TB ∧ Cond.static Lib.Math.min.name ∈ TB ∧ Cond.initialized "java/lang/Math" ∈ TB ∧ Cond.code Lib.Math.min.name Lib.Math.min.code 2 (some .int) ∈ TB
theorem kl_min_X8 : MMin RX8 265 := ⟨tbm (i := 424) (by decide +kernel) (by decide +kernel), tbm (i := 425) (by decide +kernel) (by decide +kernel), tbm (i := 22) (by decide +kernel) (by decide +kernel), tbm (i := 426) (by decide +kernel) (by decide +kernel)⟩
theorem kl_min_X3 : MMin RX3 35 := ⟨tbm (i := 512) (by decide +kernel) (by decide +kernel), tbm (i := 425) (by decide +kernel) (by decide +kernel), tbm (i := 22) (by decide +kernel) (by decide +kernel), tbm (i := 426) (by decide +kernel) (by decide +kernel)⟩
theorem kl_min_X0 : MMin RX0 25 := ⟨tbm (i := 599) (by decide +kernel) (by decide +kernel), tbm (i := 425) (by decide +kernel) (by decide +kernel), tbm (i := 22) (by decide +kernel) (by decide +kernel), tbm (i := 426) (by decide +kernel) (by decide +kernel)⟩
theorem rm_min {p : Program} {l : Launch} {e : Env} {R : Room} {s : State} {m : MethodId} {args : Array Value} {below : List Frame} {meth : Method} {c : Code} {cc : ByteArray} {nL : Nat} {own : String} {ret : Option FieldType} {D : va_G} {cy : Nat → ClassId} {ad : Ads} {A : Nat → Prop} {G : Heap → Prop} {nc ns : Nat} {Q : State → Prop} {pc index : Nat} {ls : List (Nat × Value)} {rest : List Value} {a b : Int32} (hc : CX p s m args meth c cc nL own ret D cy ad) (hd : decode cc pc = .ok (.invokestatic index, 3)) (hk : MMin own index) (h1 : 1 ≤ R.frames) (h2 : (rest.map fun v => v.category).sum + 13 ≤ R.locals) (h3 : nc ≤ R.cells ∧ ns ≤ R.slots) (kk : ∀ v : Int32, v = (if b < a then b else a) → RM p l e R s m args below meth c nL A G nc ns Q (pc + 3) ls (.int v :: rest)) : RM p l e R s m args below meth c nL A G nc ns Q pc ls (.int b :: .int a :: rest) :=
  fun H locs la hP hS hl => va_mmin hc.1.1 hc.1.2.1 (by rw [hl.1]; exact hc.1.2.2.1) hc.1.2.2.2.1 (hc.1.2.2.2.2 _ hk.1) (hc.1.2.2.2.2 _ hk.2.1) (hc.1.2.2.2.2 _ hk.2.2.1) (hc.1.2.2.2.2 _ hk.2.2.2) h1 h2 h3.1 h3.2 hd (kk _ rfl H locs la hP hS hl)
/-- the air's numbers move by one place -/
def shA (x : Mem) (k : Nat) : Mem := fun b n => if b = k ∧ 7 ≤ n ∧ n < 14 then x k (n - 1) else x b n
theorem so_sh {cy : Nat → ClassId} {ad : Ads} {x : Mem} {k : Nat} (h : k < 7) : SO cy ad x (shA x k) k 7 0 (.inl (cy 0, 8, .inl (va_cpy (fun i => if i < 8 then x k (6 + i) else 0) (fun i => if i < 8 then x k (6 + i) else 0) 0 1 7))) := by
  refine ⟨?_, fun k' c' j' hd hne => EE_congr hd fun b n ho => ?_⟩
  · show Sum.inl _ = Sum.inl _
    congr 4
    funext i
    unfold va_cpy shA
    by_cases h8 : i < 8
    · rw [if_pos h8]
      by_cases h0 : i = 0
      · subst h0; simp
      · rw [if_pos (by omega), if_pos (by omega)]
        show x k (6 + i - 1) = if 0 + (i - 1) < 8 then x k (6 + (0 + (i - 1))) else 0
        rw [if_pos (by omega)]
        congr 1
        omega
    · rw [if_neg h8, if_neg (by omega)]
      exact (if_neg h8).symm
  · unfold shA
    rw [if_neg]
    rintro ⟨rfl, h1, h2⟩
    apply hne
    rw [← ho, show n = 6 + (n - 6) by omega]
    exact ow_air (by omega) (by omega)
def MCopy (own : String) (index : Nat) : Prop := Cond.methodLink own index arraycopyName ∈ TB ∧ Cond.native arraycopyName ∈ TB ∧ Cond.static arraycopyName ∈ TB ∧ Cond.initialized "java/lang/System" ∈ TB
theorem kl_copy_X0 : MCopy RX0 15 := ⟨tbm (i := 505) (by decide +kernel) (by decide +kernel), tbm (i := 507) (by decide +kernel) (by decide +kernel), tbm (i := 506) (by decide +kernel) (by decide +kernel), tbm (i := 23) (by decide +kernel) (by decide +kernel)⟩
theorem rm_copy {p : Program} {l : Launch} {e : Env} {R : Room} {s : State} {m : MethodId} {args : Array Value} {below : List Frame} {meth : Method} {c : Code} {cc : ByteArray} {nL : Nat} {own : String} {ret : Option FieldType} {D : va_G} {cy : Nat → ClassId} {ad : Ads} {nc ns : Nat} {Q : State → Prop} {x y : Mem} {pc index : Nat} {ls : List (Nat × Value)} {rest : List Value} {k k2 sp dp cn : Nat} {f g : Nat → Int32} (hc : CX p s m args meth c cc nL own ret D cy ad) (hd : decode cc pc = .ok (.invokestatic index, 3)) (hk : MCopy own index) (h1 : 1 ≤ R.frames) (h2 : (rest.map fun v => v.category).sum + (nativeFrameWords "java/lang/System" "arraycopy" 5 + 11) ≤ R.locals) (hm : dm k 7 0) (hm2 : dm k2 7 0) (hE : EE cy ad x k 7 0 = .inl (cy 0, 8, .inl g)) (hE2 : EE cy ad x k2 7 0 = .inl (cy 0, 8, .inl f)) (b1 : sp + cn ≤ 8) (b2 : dp + cn ≤ 8) (hs : SO cy ad x y k 7 0 (.inl (cy 0, 8, .inl (va_cpy f g sp dp cn)))) (kk : RM p l e R s m args below meth c nL (AA ad s.heap.size) (GG D cy ad y) nc ns Q (pc + 3) ls rest) : RM p l e R s m args below meth c nL (AA ad s.heap.size) (GG D cy ad x) nc ns Q pc ls (.int (nI cn) :: .int (nI dp) :: .ref (ad k 7 0) :: .int (nI sp) :: .ref (ad k2 7 0) :: rest) := by
  intro H locs la hP hS hl
  obtain ⟨q0, hq, hix⟩ := wl_get (cy := cy) (ad := ad) x hm
  obtain ⟨q2, hq2, -⟩ := wl_get (cy := cy) (ad := ad) x hm2
  rw [hE] at hq
  rw [hE2] at hq2
  have cl : ∀ n, n ≤ 8 → (nI n).toNatClampNeg = n := fun n h => nI_clamp (by omega)
  refine va_copyi (A := AA ad s.heap.size) hc.1.1 hc.1.2.1 (by rw [hl.1]; exact hc.1.2.2.1) hc.1.2.2.2.1 (hc.1.2.2.2.2 _ hk.1) (hc.1.2.2.2.2 _ hk.2.1) (hc.1.2.2.2.2 _ hk.2.2.1) (hc.1.2.2.2.2 _ hk.2.2.2) hc.2.2.2.1 hP (wl_D hc.2.2.2.2.1 AA_in) hS q2 q0 0 0 hq2 hq rfl rfl rfl (nI_pos (by omega)) (nI_pos (by omega)) (nI_pos (by omega)) (by rw [cl _ (by omega), cl _ (by omega)]; exact b1) (by rw [cl _ (by omega), cl _ (by omega)]; exact b2) (fun _ _ => rfl) h1 h2 hd (fun H1 locs1 hP1 hD1 hS1 => ?_)
  rw [cl sp (by omega), cl dp (by omega), cl cn (by omega)] at hP1
  have e := wl_set (cy := cy) (ad := ad) (x := x) (y := y) hix hs.2
  rw [hs.1] at e
  rw [e] at hP1
  exact kk H1 locs1 la hP1 hS1 hl
