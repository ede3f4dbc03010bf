section ROWS
variable {p : Program} {l : Launch} {e : Env} {R : Room} {s : State} {m : MethodId} {args : Array Value} {below : List Frame} {meth : Method} {c : Code} {cc : ByteArray} {nL : Nat} {own : String} {ret : Option FieldType} {D : va_G} {cy : Nat → ClassId} {ad : Ads} {A : Nat → Prop} {G : Heap → Prop} {nc ns : Nat} {Q : State → Prop} {x : Mem} {pc : Nat} {ls : List (Nat × Value)} {st : List Value}
def lk : List (Nat × Value) → Nat → Option Value
  | [], _ => none
  | q :: t, i => cond (Nat.beq q.1 i) (some q.2) (lk t i)
theorem lk_mem : ∀ {ls : List (Nat × Value)} {i : Nat} {v : Value}, lk ls i = some v → (i, v) ∈ ls
  | [], _, _, h => by cases h
  | q :: t, i, v, h => by
    unfold lk at h
    cases hb : Nat.beq q.1 i with
    | true =>
      rw [hb] at h
      have h1 : q.2 = v := Option.some.inj h
      have h2 : q.1 = i := Nat.eq_of_beq_eq_true hb
      rw [← h1, ← h2]
      exact List.mem_cons_self
    | false =>
      rw [hb] at h
      exact List.mem_cons_of_mem _ (lk_mem h)
theorem lk_at {la : Array Slot} {n i : Nat} {ls : List (Nat × Value)} {v : Value} (h : lv_has la n ls) (hk : lk ls i = some v) : la[i]? = some (.val v) := h.2.2 (i, v) (lk_mem hk)
def ins (i : Nat) (v : Value) : List (Nat × Value) → List (Nat × Value)
  | [] => [(i, v)]
  | q :: t => cond (Nat.blt i q.1) ((i, v) :: q :: t) (q :: ins i v t)
theorem ins_mem {i : Nat} {v : Value} : ∀ {ls : List (Nat × Value)} {q : Nat × Value}, q ∈ ins i v ls → q ∈ (i, v) :: ls
  | [], _, h => h
  | a :: t, q, h => by
    unfold ins at h
    cases hb : Nat.blt i a.1 with
    | true => rw [hb] at h; exact h
    | false =>
      rw [hb] at h
      rcases List.mem_cons.mp h with h1 | h1
      · rw [h1]; exact List.mem_cons_of_mem _ List.mem_cons_self
      · rcases List.mem_cons.mp (ins_mem h1) with h2 | h2
        · rw [h2]; exact List.mem_cons_self
        · exact List.mem_cons_of_mem _ (List.mem_cons_of_mem _ h2)
theorem has_mono {la : Array Slot} {n : Nat} {ls ls' : List (Nat × Value)} (h : lv_has la n ls) (hs : ∀ q ∈ ls', q ∈ ls) : lv_has la n ls' := ⟨h.1, h.2.1, fun q hq => h.2.2 q (hs q hq)⟩
def l1 (i : Nat) (v : Value) (ls : List (Nat × Value)) : List (Nat × Value) := ins i v (ls.filter (fun q => !(q.1 == i) && !(q.1 + 1 == i && q.2.category == 2)))
def l2 (i : Nat) (v : Value) (ls : List (Nat × Value)) : List (Nat × Value) := ins i v (ls.filter (fun q => !(q.1 == i) && (!(q.1 == i + 1) && !(q.1 + 1 == i && q.2.category == 2))))
/-- a part of the locals: by their places -/
def pk (ls : List (Nat × Value)) (ks : List Nat) : List (Nat × Value) := ks.filterMap (fun k => (lk ls k).map (fun v => (k, v)))
theorem pk_mem {ls : List (Nat × Value)} {ks : List Nat} {q : Nat × Value} (h : q ∈ pk ls ks) : q ∈ ls := by
  obtain ⟨k, -, hk⟩ := List.mem_filterMap.mp h
  cases hl : lk ls k with
  | none => rw [hl] at hk; cases hk
  | some v => rw [hl] at hk; cases hk; exact lk_mem hl
theorem rm_iconst (hc : CX p s m args meth c cc nL own ret D cy ad) {n : Int} {v : Int32} (hd : decode cc pc = .ok (.iconst n, 1)) (hv : Int32.ofInt n = v) (kk : RM p l e R s m args below meth c nL A G nc ns Q (pc + 1) ls (.int v :: st)) : RM p l e R s m args below meth c nL A G nc ns Q pc ls st :=
  fun H locs la hP hS hl => lv_iconst hc.1.1 hc.1.2.1 hd hv (kk H locs la hP hS hl)
theorem rm_bipush (hc : CX p s m args meth c cc nL own ret D cy ad) {n : Int} {v : Int32} (hd : decode cc pc = .ok (.bipush n, 2)) (hv : (Int8.ofInt n).toInt32 = v) (kk : RM p l e R s m args below meth c nL A G nc ns Q (pc + 2) ls (.int v :: st)) : RM p l e R s m args below meth c nL A G nc ns Q pc ls st :=
  fun H locs la hP hS hl => lv_bipush hc.1.1 hc.1.2.1 hd hv (kk H locs la hP hS hl)
theorem rm_sipush (hc : CX p s m args meth c cc nL own ret D cy ad) {n : Int} {v : Int32} (hd : decode cc pc = .ok (.sipush n, 3)) (hv : (Int16.ofInt n).toInt32 = v) (kk : RM p l e R s m args below meth c nL A G nc ns Q (pc + 3) ls (.int v :: st)) : RM p l e R s m args below meth c nL A G nc ns Q pc ls st :=
  fun H locs la hP hS hl => lv_sipush hc.1.1 hc.1.2.1 hd hv (kk H locs la hP hS hl)
theorem rm_lconst (hc : CX p s m args meth c cc nL own ret D cy ad) {n : Fin 2} {v : Int64} (hd : decode cc pc = .ok (.lconst n, 1)) (hv : Int64.ofNat (n : Nat) = v) (kk : RM p l e R s m args below meth c nL A G nc ns Q (pc + 1) ls (.long v :: st)) : RM p l e R s m args below meth c nL A G nc ns Q pc ls st :=
  fun H locs la hP hS hl => lv_lconst hc.1.1 hc.1.2.1 hd hv (kk H locs la hP hS hl)
theorem rm_dconst0 (hc : CX p s m args meth c cc nL own ret D cy ad) (hd : decode cc pc = .ok (.dconst 0, 1)) (kk : RM p l e R s m args below meth c nL A G nc ns Q (pc + 1) ls (.double FP.dconst0 :: st)) : RM p l e R s m args below meth c nL A G nc ns Q pc ls st :=
  fun H locs la hP hS hl => lv_dconst0 hc.1.1 hc.1.2.1 hd (kk H locs la hP hS hl)
theorem rm_dconst1 (hc : CX p s m args meth c cc nL own ret D cy ad) (hd : decode cc pc = .ok (.dconst 1, 1)) (kk : RM p l e R s m args below meth c nL A G nc ns Q (pc + 1) ls (.double FP.dconst1 :: st)) : RM p l e R s m args below meth c nL A G nc ns Q pc ls st :=
  fun H locs la hP hS hl => lv_dconst1 hc.1.1 hc.1.2.1 hd (kk H locs la hP hS hl)
theorem rm_ldc (hc : CX p s m args meth c cc nL own ret D cy ad) {i : Nat} {v : Int32} (hd : decode cc pc = .ok (.ldc i, 2)) (hk : Cond.constant own i v ∈ TB) (kk : RM p l e R s m args below meth c nL A G nc ns Q (pc + 2) ls (.int v :: st)) : RM p l e R s m args below meth c nL A G nc ns Q pc ls st :=
  fun H locs la hP hS hl => lv_ldc hc.1.1 hc.1.2.1 hc.1.2.2.2.1 (hc.1.2.2.2.2 _ hk) hd (kk H locs la hP hS hl)
theorem rm_ldc2 (hc : CX p s m args meth c cc nL own ret D cy ad) {i : Nat} {v : Int64} (hd : decode cc pc = .ok (.ldc2_w i, 3)) (hk : Cond.constantLong own i v ∈ TB) (kk : RM p l e R s m args below meth c nL A G nc ns Q (pc + 3) ls (.long v :: st)) : RM p l e R s m args below meth c nL A G nc ns Q pc ls st :=
  fun H locs la hP hS hl => lv_ldc2 hc.1.1 hc.1.2.1 hc.1.2.2.2.1 (hc.1.2.2.2.2 _ hk) hd (kk H locs la hP hS hl)
theorem rm_ldc2d (hc : CX p s m args meth c cc nL own ret D cy ad) {i : Nat} {v : UInt64} (hd : decode cc pc = .ok (.ldc2_w i, 3)) (hk : Cond.constantDouble own i v ∈ TB) (kk : RM p l e R s m args below meth c nL A G nc ns Q (pc + 3) ls (.double v :: st)) : RM p l e R s m args below meth c nL A G nc ns Q pc ls st :=
  fun H locs la hP hS hl => lv_ldc2d hc.1.1 hc.1.2.1 hc.1.2.2.2.1 (hc.1.2.2.2.2 _ hk) hd (kk H locs la hP hS hl)
theorem rm_iload_n (hc : CX p s m args meth c cc nL own ret D cy ad) {k : Fin 4} {i : Nat} {v : Int32} (hd : decode cc pc = .ok (.iload_n k, 1)) (hi : (k : Nat) = i) (hk : lk ls i = some (.int v)) (kk : RM p l e R s m args below meth c nL A G nc ns Q (pc + 1) ls (.int v :: st)) : RM p l e R s m args below meth c nL A G nc ns Q pc ls st :=
  fun H locs la hP hS hl => lv_iload_n hc.1.1 hc.1.2.1 hd hi (lk_at hl hk) (kk H locs la hP hS hl)
theorem rm_iload (hc : CX p s m args meth c cc nL own ret D cy ad) {i : Nat} {v : Int32} (hd : decode cc pc = .ok (.iload i, 2)) (hk : lk ls i = some (.int v)) (kk : RM p l e R s m args below meth c nL A G nc ns Q (pc + 2) ls (.int v :: st)) : RM p l e R s m args below meth c nL A G nc ns Q pc ls st :=
  fun H locs la hP hS hl => lv_iload hc.1.1 hc.1.2.1 hd (lk_at hl hk) (kk H locs la hP hS hl)
theorem rm_lload_n (hc : CX p s m args meth c cc nL own ret D cy ad) {k : Fin 4} {i : Nat} {v : Int64} (hd : decode cc pc = .ok (.lload_n k, 1)) (hi : (k : Nat) = i) (hk : lk ls i = some (.long v)) (kk : RM p l e R s m args below meth c nL A G nc ns Q (pc + 1) ls (.long v :: st)) : RM p l e R s m args below meth c nL A G nc ns Q pc ls st :=
  fun H locs la hP hS hl => lv_lload_n hc.1.1 hc.1.2.1 hd hi (lk_at hl hk) (kk H locs la hP hS hl)
theorem rm_lload (hc : CX p s m args meth c cc nL own ret D cy ad) {i : Nat} {v : Int64} (hd : decode cc pc = .ok (.lload i, 2)) (hk : lk ls i = some (.long v)) (kk : RM p l e R s m args below meth c nL A G nc ns Q (pc + 2) ls (.long v :: st)) : RM p l e R s m args below meth c nL A G nc ns Q pc ls st :=
  fun H locs la hP hS hl => lv_lload hc.1.1 hc.1.2.1 hd (lk_at hl hk) (kk H locs la hP hS hl)
theorem rm_dload_n (hc : CX p s m args meth c cc nL own ret D cy ad) {k : Fin 4} {i : Nat} {v : UInt64} (hd : decode cc pc = .ok (.dload_n k, 1)) (hi : (k : Nat) = i) (hk : lk ls i = some (.double v)) (kk : RM p l e R s m args below meth c nL A G nc ns Q (pc + 1) ls (.double v :: st)) : RM p l e R s m args below meth c nL A G nc ns Q pc ls st :=
  fun H locs la hP hS hl => lv_dload_n hc.1.1 hc.1.2.1 hd hi (lk_at hl hk) (kk H locs la hP hS hl)
theorem rm_dload (hc : CX p s m args meth c cc nL own ret D cy ad) {i : Nat} {v : UInt64} (hd : decode cc pc = .ok (.dload i, 2)) (hk : lk ls i = some (.double v)) (kk : RM p l e R s m args below meth c nL A G nc ns Q (pc + 2) ls (.double v :: st)) : RM p l e R s m args below meth c nL A G nc ns Q pc ls st :=
  fun H locs la hP hS hl => lv_dload hc.1.1 hc.1.2.1 hd (lk_at hl hk) (kk H locs la hP hS hl)
theorem rm_aload_n (hc : CX p s m args meth c cc nL own ret D cy ad) {k : Fin 4} {i : Nat} {v : Nat} (hd : decode cc pc = .ok (.aload_n k, 1)) (hi : (k : Nat) = i) (hk : lk ls i = some (.ref v)) (kk : RM p l e R s m args below meth c nL A G nc ns Q (pc + 1) ls (.ref v :: st)) : RM p l e R s m args below meth c nL A G nc ns Q pc ls st :=
  fun H locs la hP hS hl => lv_aload_n hc.1.1 hc.1.2.1 hd hi (lk_at hl hk) (kk H locs la hP hS hl)
theorem rm_aload (hc : CX p s m args meth c cc nL own ret D cy ad) {i : Nat} {v : Nat} (hd : decode cc pc = .ok (.aload i, 2)) (hk : lk ls i = some (.ref v)) (kk : RM p l e R s m args below meth c nL A G nc ns Q (pc + 2) ls (.ref v :: st)) : RM p l e R s m args below meth c nL A G nc ns Q pc ls st :=
  fun H locs la hP hS hl => lv_aload hc.1.1 hc.1.2.1 hd (lk_at hl hk) (kk H locs la hP hS hl)
theorem rm_istore_n (hc : CX p s m args meth c cc nL own ret D cy ad) {k : Fin 4} {i : Nat} {v : Int32} {ls' : List (Nat × Value)} (hd : decode cc pc = .ok (.istore_n k, 1)) (hi : (k : Nat) = i) (hn : i < nL) (hl' : l1 i (.int v) ls = ls') (kk : RM p l e R s m args below meth c nL A G nc ns Q (pc + 1) ls' st) : RM p l e R s m args below meth c nL A G nc ns Q pc ls (.int v :: st) :=
  fun H locs la hP hS hl => lv_istore_n hc.1.1 hc.1.2.1 hd hi hl hn rfl (fun la' h' => kk H locs la' hP hS (has_mono h' (fun q hq => by rw [← hl'] at hq; exact ins_mem hq)))
theorem rm_istore (hc : CX p s m args meth c cc nL own ret D cy ad) {i : Nat} {v : Int32} {ls' : List (Nat × Value)} (hd : decode cc pc = .ok (.istore i, 2)) (hn : i < nL) (hl' : l1 i (.int v) ls = ls') (kk : RM p l e R s m args below meth c nL A G nc ns Q (pc + 2) ls' st) : RM p l e R s m args below meth c nL A G nc ns Q pc ls (.int v :: st) :=
  fun H locs la hP hS hl => lv_istore hc.1.1 hc.1.2.1 hd hl hn rfl (fun la' h' => kk H locs la' hP hS (has_mono h' (fun q hq => by rw [← hl'] at hq; exact ins_mem hq)))
theorem rm_lstore_n (hc : CX p s m args meth c cc nL own ret D cy ad) {k : Fin 4} {i : Nat} {v : Int64} {ls' : List (Nat × Value)} (hd : decode cc pc = .ok (.lstore_n k, 1)) (hi : (k : Nat) = i) (hn : i + 1 < nL) (hl' : l2 i (.long v) ls = ls') (kk : RM p l e R s m args below meth c nL A G nc ns Q (pc + 1) ls' st) : RM p l e R s m args below meth c nL A G nc ns Q pc ls (.long v :: st) :=
  fun H locs la hP hS hl => lv_lstore_n hc.1.1 hc.1.2.1 hd hi hl hn rfl (fun la' h' => kk H locs la' hP hS (has_mono h' (fun q hq => by rw [← hl'] at hq; exact ins_mem hq)))
theorem rm_lstore (hc : CX p s m args meth c cc nL own ret D cy ad) {i : Nat} {v : Int64} {ls' : List (Nat × Value)} (hd : decode cc pc = .ok (.lstore i, 2)) (hn : i + 1 < nL) (hl' : l2 i (.long v) ls = ls') (kk : RM p l e R s m args below meth c nL A G nc ns Q (pc + 2) ls' st) : RM p l e R s m args below meth c nL A G nc ns Q pc ls (.long v :: st) :=
  fun H locs la hP hS hl => lv_lstore hc.1.1 hc.1.2.1 hd hl hn rfl (fun la' h' => kk H locs la' hP hS (has_mono h' (fun q hq => by rw [← hl'] at hq; exact ins_mem hq)))
theorem rm_dstore_n (hc : CX p s m args meth c cc nL own ret D cy ad) {k : Fin 4} {i : Nat} {v : UInt64} {ls' : List (Nat × Value)} (hd : decode cc pc = .ok (.dstore_n k, 1)) (hi : (k : Nat) = i) (hn : i + 1 < nL) (hl' : l2 i (.double v) ls = ls') (kk : RM p l e R s m args below meth c nL A G nc ns Q (pc + 1) ls' st) : RM p l e R s m args below meth c nL A G nc ns Q pc ls (.double v :: st) :=
  fun H locs la hP hS hl => lv_dstore_n hc.1.1 hc.1.2.1 hd hi hl hn rfl (fun la' h' => kk H locs la' hP hS (has_mono h' (fun q hq => by rw [← hl'] at hq; exact ins_mem hq)))
theorem rm_dstore (hc : CX p s m args meth c cc nL own ret D cy ad) {i : Nat} {v : UInt64} {ls' : List (Nat × Value)} (hd : decode cc pc = .ok (.dstore i, 2)) (hn : i + 1 < nL) (hl' : l2 i (.double v) ls = ls') (kk : RM p l e R s m args below meth c nL A G nc ns Q (pc + 2) ls' st) : RM p l e R s m args below meth c nL A G nc ns Q pc ls (.double v :: st) :=
  fun H locs la hP hS hl => lv_dstore hc.1.1 hc.1.2.1 hd hl hn rfl (fun la' h' => kk H locs la' hP hS (has_mono h' (fun q hq => by rw [← hl'] at hq; exact ins_mem hq)))
theorem rm_astore_n (hc : CX p s m args meth c cc nL own ret D cy ad) {k : Fin 4} {i : Nat} {v : Nat} {ls' : List (Nat × Value)} (hd : decode cc pc = .ok (.astore_n k, 1)) (hi : (k : Nat) = i) (hn : i < nL) (hl' : l1 i (.ref v) ls = ls') (kk : RM p l e R s m args below meth c nL A G nc ns Q (pc + 1) ls' st) : RM p l e R s m args below meth c nL A G nc ns Q pc ls (.ref v :: st) :=
  fun H locs la hP hS hl => lv_astore_n hc.1.1 hc.1.2.1 hd hi hl hn rfl (fun la' h' => kk H locs la' hP hS (has_mono h' (fun q hq => by rw [← hl'] at hq; exact ins_mem hq)))
theorem rm_astore (hc : CX p s m args meth c cc nL own ret D cy ad) {i : Nat} {v : Nat} {ls' : List (Nat × Value)} (hd : decode cc pc = .ok (.astore i, 2)) (hn : i < nL) (hl' : l1 i (.ref v) ls = ls') (kk : RM p l e R s m args below meth c nL A G nc ns Q (pc + 2) ls' st) : RM p l e R s m args below meth c nL A G nc ns Q pc ls (.ref v :: st) :=
  fun H locs la hP hS hl => lv_astore hc.1.1 hc.1.2.1 hd hl hn rfl (fun la' h' => kk H locs la' hP hS (has_mono h' (fun q hq => by rw [← hl'] at hq; exact ins_mem hq)))
theorem rm_iinc (hc : CX p s m args meth c cc nL own ret D cy ad) {i : Nat} {n : Int} {a v : Int32} {ls' : List (Nat × Value)} (hd : decode cc pc = .ok (.iinc i n, 3)) (hk : lk ls i = some (.int a)) (hv : a + Int32.ofInt n = v) (hn : i < nL) (hl' : l1 i (.int v) ls = ls') (kk : RM p l e R s m args below meth c nL A G nc ns Q (pc + 3) ls' st) : RM p l e R s m args below meth c nL A G nc ns Q pc ls st := by
  intro H locs la hP hS hl
  obtain ⟨k0, hk0⟩ := List.getElem?_of_mem (lk_mem hk)
  exact lv_iinc hc.1.1 hc.1.2.1 hd hl hk0 hv hn rfl (fun la' h' => kk H locs la' hP hS (has_mono h' (fun q hq => by rw [← hl'] at hq; exact ins_mem hq)))
theorem rm_iadd (hc : CX p s m args meth c cc nL own ret D cy ad) {a b : Int32} (hd : decode cc pc = .ok (.iadd, 1)) (kk : ∀ v : Int32, v = a + b → RM p l e R s m args below meth c nL A G nc ns Q (pc + 1) ls (.int v :: st)) : RM p l e R s m args below meth c nL A G nc ns Q pc ls (.int b :: .int a :: st) :=
  fun H locs la hP hS hl => lv_iadd hc.1.1 hc.1.2.1 hd (kk _ rfl H locs la hP hS hl)
theorem rm_isub (hc : CX p s m args meth c cc nL own ret D cy ad) {a b : Int32} (hd : decode cc pc = .ok (.isub, 1)) (kk : ∀ v : Int32, v = a - b → RM p l e R s m args below meth c nL A G nc ns Q (pc + 1) ls (.int v :: st)) : RM p l e R s m args below meth c nL A G nc ns Q pc ls (.int b :: .int a :: st) :=
  fun H locs la hP hS hl => lv_isub hc.1.1 hc.1.2.1 hd (kk _ rfl H locs la hP hS hl)
theorem rm_imul (hc : CX p s m args meth c cc nL own ret D cy ad) {a b : Int32} (hd : decode cc pc = .ok (.imul, 1)) (kk : ∀ v : Int32, v = a * b → RM p l e R s m args below meth c nL A G nc ns Q (pc + 1) ls (.int v :: st)) : RM p l e R s m args below meth c nL A G nc ns Q pc ls (.int b :: .int a :: st) :=
  fun H locs la hP hS hl => lv_imul hc.1.1 hc.1.2.1 hd (kk _ rfl H locs la hP hS hl)
theorem rm_iand (hc : CX p s m args meth c cc nL own ret D cy ad) {a b : Int32} (hd : decode cc pc = .ok (.iand, 1)) (kk : ∀ v : Int32, v = a &&& b → RM p l e R s m args below meth c nL A G nc ns Q (pc + 1) ls (.int v :: st)) : RM p l e R s m args below meth c nL A G nc ns Q pc ls (.int b :: .int a :: st) :=
  fun H locs la hP hS hl => lv_iand hc.1.1 hc.1.2.1 hd (kk _ rfl H locs la hP hS hl)
theorem rm_ior (hc : CX p s m args meth c cc nL own ret D cy ad) {a b : Int32} (hd : decode cc pc = .ok (.ior, 1)) (kk : ∀ v : Int32, v = a ||| b → RM p l e R s m args below meth c nL A G nc ns Q (pc + 1) ls (.int v :: st)) : RM p l e R s m args below meth c nL A G nc ns Q pc ls (.int b :: .int a :: st) :=
  fun H locs la hP hS hl => lv_ior hc.1.1 hc.1.2.1 hd (kk _ rfl H locs la hP hS hl)
theorem rm_ixor (hc : CX p s m args meth c cc nL own ret D cy ad) {a b : Int32} (hd : decode cc pc = .ok (.ixor, 1)) (kk : ∀ v : Int32, v = a ^^^ b → RM p l e R s m args below meth c nL A G nc ns Q (pc + 1) ls (.int v :: st)) : RM p l e R s m args below meth c nL A G nc ns Q pc ls (.int b :: .int a :: st) :=
  fun H locs la hP hS hl => lv_ixor hc.1.1 hc.1.2.1 hd (kk _ rfl H locs la hP hS hl)
theorem rm_ishl (hc : CX p s m args meth c cc nL own ret D cy ad) {a b : Int32} (hd : decode cc pc = .ok (.ishl, 1)) (kk : ∀ v : Int32, v = a <<< (b &&& 31) → RM p l e R s m args below meth c nL A G nc ns Q (pc + 1) ls (.int v :: st)) : RM p l e R s m args below meth c nL A G nc ns Q pc ls (.int b :: .int a :: st) :=
  fun H locs la hP hS hl => lv_ishl hc.1.1 hc.1.2.1 hd (kk _ rfl H locs la hP hS hl)
theorem rm_ishr (hc : CX p s m args meth c cc nL own ret D cy ad) {a b : Int32} (hd : decode cc pc = .ok (.ishr, 1)) (kk : ∀ v : Int32, v = a >>> (b &&& 31) → RM p l e R s m args below meth c nL A G nc ns Q (pc + 1) ls (.int v :: st)) : RM p l e R s m args below meth c nL A G nc ns Q pc ls (.int b :: .int a :: st) :=
  fun H locs la hP hS hl => lv_ishr hc.1.1 hc.1.2.1 hd (kk _ rfl H locs la hP hS hl)
theorem rm_idiv (hc : CX p s m args meth c cc nL own ret D cy ad) {a b : Int32} (hd : decode cc pc = .ok (.idiv, 1)) (hne : ¬ b = 0) (kk : ∀ v : Int32, v = a / b → RM p l e R s m args below meth c nL A G nc ns Q (pc + 1) ls (.int v :: st)) : RM p l e R s m args below meth c nL A G nc ns Q pc ls (.int b :: .int a :: st) :=
  fun H locs la hP hS hl => lv_idiv hc.1.1 hc.1.2.1 hd hne (kk _ rfl H locs la hP hS hl)
theorem rm_irem (hc : CX p s m args meth c cc nL own ret D cy ad) {a b : Int32} (hd : decode cc pc = .ok (.irem, 1)) (hne : ¬ b = 0) (kk : ∀ v : Int32, v = a - a / b * b → RM p l e R s m args below meth c nL A G nc ns Q (pc + 1) ls (.int v :: st)) : RM p l e R s m args below meth c nL A G nc ns Q pc ls (.int b :: .int a :: st) :=
  fun H locs la hP hS hl => lv_irem hc.1.1 hc.1.2.1 hd hne (kk _ rfl H locs la hP hS hl)
theorem rm_ladd (hc : CX p s m args meth c cc nL own ret D cy ad) {a b : Int64} (hd : decode cc pc = .ok (.ladd, 1)) (kk : ∀ v : Int64, v = a + b → RM p l e R s m args below meth c nL A G nc ns Q (pc + 1) ls (.long v :: st)) : RM p l e R s m args below meth c nL A G nc ns Q pc ls (.long b :: .long a :: st) :=
  fun H locs la hP hS hl => lv_ladd hc.1.1 hc.1.2.1 hd (kk _ rfl H locs la hP hS hl)
theorem rm_lsub (hc : CX p s m args meth c cc nL own ret D cy ad) {a b : Int64} (hd : decode cc pc = .ok (.lsub, 1)) (kk : ∀ v : Int64, v = a - b → RM p l e R s m args below meth c nL A G nc ns Q (pc + 1) ls (.long v :: st)) : RM p l e R s m args below meth c nL A G nc ns Q pc ls (.long b :: .long a :: st) :=
  fun H locs la hP hS hl => lv_lsub hc.1.1 hc.1.2.1 hd (kk _ rfl H locs la hP hS hl)
theorem rm_lmul (hc : CX p s m args meth c cc nL own ret D cy ad) {a b : Int64} (hd : decode cc pc = .ok (.lmul, 1)) (kk : ∀ v : Int64, v = a * b → RM p l e R s m args below meth c nL A G nc ns Q (pc + 1) ls (.long v :: st)) : RM p l e R s m args below meth c nL A G nc ns Q pc ls (.long b :: .long a :: st) :=
  fun H locs la hP hS hl => lv_lmul hc.1.1 hc.1.2.1 hd (kk _ rfl H locs la hP hS hl)
theorem rm_lshl (hc : CX p s m args meth c cc nL own ret D cy ad) {a : Int64} {b : Int32} (hd : decode cc pc = .ok (.lshl, 1)) (kk : ∀ v : Int64, v = a <<< (b.toInt64 &&& 63) → RM p l e R s m args below meth c nL A G nc ns Q (pc + 1) ls (.long v :: st)) : RM p l e R s m args below meth c nL A G nc ns Q pc ls (.int b :: .long a :: st) :=
  fun H locs la hP hS hl => lv_lshl hc.1.1 hc.1.2.1 hd rfl (kk _ rfl H locs la hP hS hl)
theorem rm_i2l (hc : CX p s m args meth c cc nL own ret D cy ad) {a : Int32} (hd : decode cc pc = .ok (.i2l, 1)) (kk : ∀ v : Int64, v = a.toInt64 → RM p l e R s m args below meth c nL A G nc ns Q (pc + 1) ls (.long v :: st)) : RM p l e R s m args below meth c nL A G nc ns Q pc ls (.int a :: st) :=
  fun H locs la hP hS hl => lv_i2l hc.1.1 hc.1.2.1 hd rfl (kk _ rfl H locs la hP hS hl)
theorem rm_i2d (hc : CX p s m args meth c cc nL own ret D cy ad) {a : Int32} (hd : decode cc pc = .ok (.i2d, 1)) (kk : ∀ v : UInt64, v = FP.i2d a → RM p l e R s m args below meth c nL A G nc ns Q (pc + 1) ls (.double v :: st)) : RM p l e R s m args below meth c nL A G nc ns Q pc ls (.int a :: st) :=
  fun H locs la hP hS hl => lv_i2d hc.1.1 hc.1.2.1 hd (kk _ rfl H locs la hP hS hl)
theorem rm_d2l (hc : CX p s m args meth c cc nL own ret D cy ad) {a : UInt64} (hd : decode cc pc = .ok (.d2l, 1)) (kk : ∀ v : Int64, v = FP.d2l a → RM p l e R s m args below meth c nL A G nc ns Q (pc + 1) ls (.long v :: st)) : RM p l e R s m args below meth c nL A G nc ns Q pc ls (.double a :: st) :=
  fun H locs la hP hS hl => lv_d2l hc.1.1 hc.1.2.1 hd (kk _ rfl H locs la hP hS hl)
theorem rm_ddiv (hc : CX p s m args meth c cc nL own ret D cy ad) {a b : UInt64} (hd : decode cc pc = .ok (.ddiv, 1)) (hne : vf_n64 (FP.ddiv a b)) (kk : ∀ v : UInt64, v = FP.ddiv a b → RM p l e R s m args below meth c nL A G nc ns Q (pc + 1) ls (.double v :: st)) : RM p l e R s m args below meth c nL A G nc ns Q pc ls (.double b :: .double a :: st) :=
  fun H locs la hP hS hl => lv_ddiv hc.1.1 hc.1.2.1 hd hne (kk _ rfl H locs la hP hS hl)
theorem rm_dmul (hc : CX p s m args meth c cc nL own ret D cy ad) {a b : UInt64} (hd : decode cc pc = .ok (.dmul, 1)) (hne : vf_n64 (FP.dmul a b)) (kk : ∀ v : UInt64, v = FP.dmul a b → RM p l e R s m args below meth c nL A G nc ns Q (pc + 1) ls (.double v :: st)) : RM p l e R s m args below meth c nL A G nc ns Q pc ls (.double b :: .double a :: st) :=
  fun H locs la hP hS hl => lv_dmul hc.1.1 hc.1.2.1 hd hne (kk _ rfl H locs la hP hS hl)
theorem rm_dsub (hc : CX p s m args meth c cc nL own ret D cy ad) {a b : UInt64} (hd : decode cc pc = .ok (.dsub, 1)) (hne : vf_n64 (FP.dsub a b)) (kk : ∀ v : UInt64, v = FP.dsub a b → RM p l e R s m args below meth c nL A G nc ns Q (pc + 1) ls (.double v :: st)) : RM p l e R s m args below meth c nL A G nc ns Q pc ls (.double b :: .double a :: st) :=
  fun H locs la hP hS hl => lv_dsub hc.1.1 hc.1.2.1 hd hne (kk _ rfl H locs la hP hS hl)
theorem rm_dcmp (hc : CX p s m args meth c cc nL own ret D cy ad) {a b : UInt64} {op : CmpOp} (hd : decode cc pc = .ok (.dcmp op, 1)) (kk : ∀ v : Int32, v = Op.cmpValue (FP.dcmp a b) op → RM p l e R s m args below meth c nL A G nc ns Q (pc + 1) ls (.int v :: st)) : RM p l e R s m args below meth c nL A G nc ns Q pc ls (.double b :: .double a :: st) :=
  fun H locs la hP hS hl => lv_dcmp hc.1.1 hc.1.2.1 hd (kk _ rfl H locs la hP hS hl)
theorem rm_dup (hc : CX p s m args meth c cc nL own ret D cy ad) {a : Value} (hd : decode cc pc = .ok (.dup, 1)) (ha : a.category = 1) (kk : RM p l e R s m args below meth c nL A G nc ns Q (pc + 1) ls (a :: a :: st)) : RM p l e R s m args below meth c nL A G nc ns Q pc ls (a :: st) :=
  fun H locs la hP hS hl => lv_dup hc.1.1 hc.1.2.1 hd ha (kk H locs la hP hS hl)
theorem rm_pop (hc : CX p s m args meth c cc nL own ret D cy ad) {a : Value} (hd : decode cc pc = .ok (.pop, 1)) (ha : a.category = 1) (kk : RM p l e R s m args below meth c nL A G nc ns Q (pc + 1) ls st) : RM p l e R s m args below meth c nL A G nc ns Q pc ls (a :: st) :=
  fun H locs la hP hS hl => lv_pop hc.1.1 hc.1.2.1 hd ha (kk H locs la hP hS hl)
theorem rm_dup2 (hc : CX p s m args meth c cc nL own ret D cy ad) {a b : Value} (hd : decode cc pc = .ok (.dup2, 1)) (ha : a.category = 1) (hb : b.category = 1) (kk : RM p l e R s m args below meth c nL A G nc ns Q (pc + 1) ls (a :: b :: a :: b :: st)) : RM p l e R s m args below meth c nL A G nc ns Q pc ls (a :: b :: st) :=
  fun H locs la hP hS hl => lv_dup2_11 hc.1.1 hc.1.2.1 hd ha hb (kk H locs la hP hS hl)
theorem rm_dup_x1 (hc : CX p s m args meth c cc nL own ret D cy ad) {a b : Value} (hd : decode cc pc = .ok (.dup_x1, 1)) (ha : a.category = 1) (hb : b.category = 1) (kk : RM p l e R s m args below meth c nL A G nc ns Q (pc + 1) ls (a :: b :: a :: st)) : RM p l e R s m args below meth c nL A G nc ns Q pc ls (a :: b :: st) :=
  fun H locs la hP hS hl => lv_dup_x1 hc.1.1 hc.1.2.1 hd ha hb (kk H locs la hP hS hl)
theorem rm_if_eq (hc : CX p s m args meth c cc nL own ret D cy ad) {a : Int32} {off : Int} {tgt : Nat} (hd : decode cc pc = .ok (.ifCond .eq off, 3)) (ht : (pc : Int) + off = (tgt : Int)) (kt : a = 0 → RM p l e R s m args below meth c nL A G nc ns Q tgt ls st) (kf : ¬ a = 0 → RM p l e R s m args below meth c nL A G nc ns Q (pc + 3) ls st) : RM p l e R s m args below meth c nL A G nc ns Q pc ls (.int a :: st) :=
  fun H locs la hP hS hl => lv_if_eq hc.1.1 hc.1.2.1 hd ht (fun h => kt h H locs la hP hS hl) (fun h => kf h H locs la hP hS hl)
theorem rm_icmp_eq (hc : CX p s m args meth c cc nL own ret D cy ad) {a b : Int32} {off : Int} {tgt : Nat} (hd : decode cc pc = .ok (.if_icmp .eq off, 3)) (ht : (pc : Int) + off = (tgt : Int)) (kt : a = b → RM p l e R s m args below meth c nL A G nc ns Q tgt ls st) (kf : ¬ a = b → RM p l e R s m args below meth c nL A G nc ns Q (pc + 3) ls st) : RM p l e R s m args below meth c nL A G nc ns Q pc ls (.int b :: .int a :: st) :=
  fun H locs la hP hS hl => lv_icmp_eq hc.1.1 hc.1.2.1 hd ht (fun h => kt h H locs la hP hS hl) (fun h => kf h H locs la hP hS hl)
theorem rm_if_ne (hc : CX p s m args meth c cc nL own ret D cy ad) {a : Int32} {off : Int} {tgt : Nat} (hd : decode cc pc = .ok (.ifCond .ne off, 3)) (ht : (pc : Int) + off = (tgt : Int)) (kt : ¬ a = 0 → RM p l e R s m args below meth c nL A G nc ns Q tgt ls st) (kf : a = 0 → RM p l e R s m args below meth c nL A G nc ns Q (pc + 3) ls st) : RM p l e R s m args below meth c nL A G nc ns Q pc ls (.int a :: st) :=
  fun H locs la hP hS hl => lv_if_ne hc.1.1 hc.1.2.1 hd ht (fun h => kt h H locs la hP hS hl) (fun h => kf h H locs la hP hS hl)
theorem rm_icmp_ne (hc : CX p s m args meth c cc nL own ret D cy ad) {a b : Int32} {off : Int} {tgt : Nat} (hd : decode cc pc = .ok (.if_icmp .ne off, 3)) (ht : (pc : Int) + off = (tgt : Int)) (kt : ¬ a = b → RM p l e R s m args below meth c nL A G nc ns Q tgt ls st) (kf : a = b → RM p l e R s m args below meth c nL A G nc ns Q (pc + 3) ls st) : RM p l e R s m args below meth c nL A G nc ns Q pc ls (.int b :: .int a :: st) :=
  fun H locs la hP hS hl => lv_icmp_ne hc.1.1 hc.1.2.1 hd ht (fun h => kt h H locs la hP hS hl) (fun h => kf h H locs la hP hS hl)
theorem rm_if_lt (hc : CX p s m args meth c cc nL own ret D cy ad) {a : Int32} {off : Int} {tgt : Nat} (hd : decode cc pc = .ok (.ifCond .lt off, 3)) (ht : (pc : Int) + off = (tgt : Int)) (kt : a < 0 → RM p l e R s m args below meth c nL A G nc ns Q tgt ls st) (kf : ¬ a < 0 → RM p l e R s m args below meth c nL A G nc ns Q (pc + 3) ls st) : RM p l e R s m args below meth c nL A G nc ns Q pc ls (.int a :: st) :=
  fun H locs la hP hS hl => lv_if_lt hc.1.1 hc.1.2.1 hd ht (fun h => kt h H locs la hP hS hl) (fun h => kf h H locs la hP hS hl)
theorem rm_icmp_lt (hc : CX p s m args meth c cc nL own ret D cy ad) {a b : Int32} {off : Int} {tgt : Nat} (hd : decode cc pc = .ok (.if_icmp .lt off, 3)) (ht : (pc : Int) + off = (tgt : Int)) (kt : a < b → RM p l e R s m args below meth c nL A G nc ns Q tgt ls st) (kf : ¬ a < b → RM p l e R s m args below meth c nL A G nc ns Q (pc + 3) ls st) : RM p l e R s m args below meth c nL A G nc ns Q pc ls (.int b :: .int a :: st) :=
  fun H locs la hP hS hl => lv_icmp_lt hc.1.1 hc.1.2.1 hd ht (fun h => kt h H locs la hP hS hl) (fun h => kf h H locs la hP hS hl)
theorem rm_if_ge (hc : CX p s m args meth c cc nL own ret D cy ad) {a : Int32} {off : Int} {tgt : Nat} (hd : decode cc pc = .ok (.ifCond .ge off, 3)) (ht : (pc : Int) + off = (tgt : Int)) (kt : 0 ≤ a → RM p l e R s m args below meth c nL A G nc ns Q tgt ls st) (kf : ¬ 0 ≤ a → RM p l e R s m args below meth c nL A G nc ns Q (pc + 3) ls st) : RM p l e R s m args below meth c nL A G nc ns Q pc ls (.int a :: st) :=
  fun H locs la hP hS hl => lv_if_ge hc.1.1 hc.1.2.1 hd ht (fun h => kt h H locs la hP hS hl) (fun h => kf h H locs la hP hS hl)
theorem rm_icmp_ge (hc : CX p s m args meth c cc nL own ret D cy ad) {a b : Int32} {off : Int} {tgt : Nat} (hd : decode cc pc = .ok (.if_icmp .ge off, 3)) (ht : (pc : Int) + off = (tgt : Int)) (kt : b ≤ a → RM p l e R s m args below meth c nL A G nc ns Q tgt ls st) (kf : ¬ b ≤ a → RM p l e R s m args below meth c nL A G nc ns Q (pc + 3) ls st) : RM p l e R s m args below meth c nL A G nc ns Q pc ls (.int b :: .int a :: st) :=
  fun H locs la hP hS hl => lv_icmp_ge hc.1.1 hc.1.2.1 hd ht (fun h => kt h H locs la hP hS hl) (fun h => kf h H locs la hP hS hl)
theorem rm_if_gt (hc : CX p s m args meth c cc nL own ret D cy ad) {a : Int32} {off : Int} {tgt : Nat} (hd : decode cc pc = .ok (.ifCond .gt off, 3)) (ht : (pc : Int) + off = (tgt : Int)) (kt : 0 < a → RM p l e R s m args below meth c nL A G nc ns Q tgt ls st) (kf : ¬ 0 < a → RM p l e R s m args below meth c nL A G nc ns Q (pc + 3) ls st) : RM p l e R s m args below meth c nL A G nc ns Q pc ls (.int a :: st) :=
  fun H locs la hP hS hl => lv_if_gt hc.1.1 hc.1.2.1 hd ht (fun h => kt h H locs la hP hS hl) (fun h => kf h H locs la hP hS hl)
theorem rm_icmp_gt (hc : CX p s m args meth c cc nL own ret D cy ad) {a b : Int32} {off : Int} {tgt : Nat} (hd : decode cc pc = .ok (.if_icmp .gt off, 3)) (ht : (pc : Int) + off = (tgt : Int)) (kt : b < a → RM p l e R s m args below meth c nL A G nc ns Q tgt ls st) (kf : ¬ b < a → RM p l e R s m args below meth c nL A G nc ns Q (pc + 3) ls st) : RM p l e R s m args below meth c nL A G nc ns Q pc ls (.int b :: .int a :: st) :=
  fun H locs la hP hS hl => lv_icmp_gt hc.1.1 hc.1.2.1 hd ht (fun h => kt h H locs la hP hS hl) (fun h => kf h H locs la hP hS hl)
theorem rm_if_le (hc : CX p s m args meth c cc nL own ret D cy ad) {a : Int32} {off : Int} {tgt : Nat} (hd : decode cc pc = .ok (.ifCond .le off, 3)) (ht : (pc : Int) + off = (tgt : Int)) (kt : a ≤ 0 → RM p l e R s m args below meth c nL A G nc ns Q tgt ls st) (kf : ¬ a ≤ 0 → RM p l e R s m args below meth c nL A G nc ns Q (pc + 3) ls st) : RM p l e R s m args below meth c nL A G nc ns Q pc ls (.int a :: st) :=
  fun H locs la hP hS hl => lv_if_le hc.1.1 hc.1.2.1 hd ht (fun h => kt h H locs la hP hS hl) (fun h => kf h H locs la hP hS hl)
theorem rm_icmp_le (hc : CX p s m args meth c cc nL own ret D cy ad) {a b : Int32} {off : Int} {tgt : Nat} (hd : decode cc pc = .ok (.if_icmp .le off, 3)) (ht : (pc : Int) + off = (tgt : Int)) (kt : a ≤ b → RM p l e R s m args below meth c nL A G nc ns Q tgt ls st) (kf : ¬ a ≤ b → RM p l e R s m args below meth c nL A G nc ns Q (pc + 3) ls st) : RM p l e R s m args below meth c nL A G nc ns Q pc ls (.int b :: .int a :: st) :=
  fun H locs la hP hS hl => lv_icmp_le hc.1.1 hc.1.2.1 hd ht (fun h => kt h H locs la hP hS hl) (fun h => kf h H locs la hP hS hl)
theorem rm_goto (hc : CX p s m args meth c cc nL own ret D cy ad) {off : Int} {tgt : Nat} (hd : decode cc pc = .ok (.goto off, 3)) (ht : (pc : Int) + off = (tgt : Int)) (kk : RM p l e R s m args below meth c nL A G nc ns Q tgt ls st) : RM p l e R s m args below meth c nL A G nc ns Q pc ls st :=
  fun H locs la hP hS hl => lv_goto hc.1.1 hc.1.2.1 hd ht (kk H locs la hP hS hl)
theorem rm_tout (hc : CX p s m args meth c cc nL own ret D cy ad) {dflt lo hi : Int} {offs : Array Int} {len : Nat} {a : Int32} {tgt : Nat} (hd : decode cc pc = .ok (.tableswitch dflt lo hi offs, len)) (h : a.toInt < lo ∨ hi < a.toInt) (ht : (pc : Int) + dflt = (tgt : Int)) (kk : RM p l e R s m args below meth c nL A G nc ns Q tgt ls st) : RM p l e R s m args below meth c nL A G nc ns Q pc ls (.int a :: st) :=
  fun H locs la hP hS hl => lv_tableOut hc.1.1 hc.1.2.1 hd h ht (kk H locs la hP hS hl)
theorem rm_tin (hc : CX p s m args meth c cc nL own ret D cy ad) {dflt lo hi : Int} {offs : Array Int} {len : Nat} {a : Int32} {off : Int} {tgt : Nat} (hd : decode cc pc = .ok (.tableswitch dflt lo hi offs, len)) (h1 : ¬ a.toInt < lo) (h2 : ¬ hi < a.toInt) (ho : offs[(a.toInt - lo).toNat]? = some off) (ht : (pc : Int) + off = (tgt : Int)) (kk : RM p l e R s m args below meth c nL A G nc ns Q tgt ls st) : RM p l e R s m args below meth c nL A G nc ns Q pc ls (.int a :: st) :=
  fun H locs la hP hS hl => lv_tableIn hc.1.1 hc.1.2.1 hd h1 h2 ho ht (kk H locs la hP hS hl)
theorem rm_lkup (hc : CX p s m args meth c cc nL own ret D cy ad) {dflt : Int} {ps : Array (Int × Int)} {len : Nat} {a : Int32} {off : Int} {tgt : Nat} (hd : decode cc pc = .ok (.lookupswitch dflt ps, len)) (hp : (ps.toList.zip (ps.toList.drop 1)).all (fun (a, next) => a.1 < next.1) = true) (ho : Op.lookupswitch.offset ps.toList dflt a.toInt = off) (ht : (pc : Int) + off = (tgt : Int)) (kk : RM p l e R s m args below meth c nL A G nc ns Q tgt ls st) : RM p l e R s m args below meth c nL A G nc ns Q pc ls (.int a :: st) :=
  fun H locs la hP hS hl => lv_lookup hc.1.1 hc.1.2.1 hd hp ho ht (kk H locs la hP hS hl)
theorem rm_sub {ls' : List (Nat × Value)} (ks : List Nat) (hk : pk ls ks = ls') (kk : RM p l e R s m args below meth c nL A G nc ns Q pc ls' st) : RM p l e R s m args below meth c nL A G nc ns Q pc ls st :=
  fun H locs la hP hS hl => kk H locs la hP hS (has_mono hl (fun q hq => by rw [← hk] at hq; exact pk_mem hq))
theorem rm_mem {G' : Heap → Prop} (h : ∀ H, G H → G' H) (kk : RM p l e R s m args below meth c nL A  G' nc ns Q pc ls st) : RM p l e R s m args below meth c nL A G nc ns Q pc ls st :=
  fun H locs la hP hS hl => kk H locs la (h H hP) hS hl
end ROWS
