section ROWS2
variable {p : Program} {l : Launch} {e : Env} {R : Room} {s : State} {m : MethodId} {args : Array Value} {below : List Frame} {meth : Method} {c : Code} {cc : ByteArray} {nL : Nat} {own : String} {ret : Option FieldType} {D : va_G} {cy : Nat → ClassId} {ad : Ads} {A : Nat → Prop} {G : Heap → Prop} {nc ns : Nat} {Q : State → Prop} {x : Mem} {pc : Nat} {ls : List (Nat × Value)} {st : List Value}
/-- a field, by its class's place in vwCl and its place in the class -/
def FL (own : String) (index ci f : Nat) : Prop := ∃ (C : String) (T : u_T) (N : Nat), vwCl[ci]? = some (C, T, N) ∧ f < N ∧ Cond.fieldLink own index (T f).1 (T f).2.1 (T f).2.2.1 ∈ TB
theorem tyTB : ∀ q ∈ vwCl, ∀ k, k < q.2.2 → (parseFieldDescriptor (q.2.1 k).2.2.1).isSome = true := by decide +kernel
theorem ty_of {q : vw_C} (h : q ∈ vwCl) : ∀ k, k < q.2.2 → parseFieldDescriptor (q.2.1 k).2.2.1 = some ((parseFieldDescriptor (q.2.1 k).2.2.1).getD .int) := fun k hk => by
  obtain ⟨t, ht⟩ := Option.isSome_iff_exists.mp (tyTB q h k hk)
  rw [ht]; rfl
def SO (cy : Nat → ClassId) (ad : Ads) (x y : Mem) (k c j : Nat) (e : va_E) : Prop := EE cy ad y k c j = e ∧ ∀ k' c' j', dm k' c' j' → (k', c', j') ≠ (k, c, j) → EE cy ad y k' c' j' = EE cy ad x k' c' j'
theorem so_up {cy : Nat → ClassId} {ad : Ads} {x : Mem} {k c j b n : Nat} {v : Int32} {e : va_E} (ho : ow b n = (k, c, j)) (he : EE cy ad (up x b n v) k c j = e) : SO cy ad x (up x b n v) k c j e :=
  ⟨he, fun k' c' j' hd hne => EE_up hd (fun h => hne (h.symm.trans ho))⟩
theorem GG_congr {D : va_G} {cy : Nat → ClassId} {ad : Ads} {x y : Mem} {H : Heap} (h : ∀ k c j, dm k c j → EE cy ad y k c j = EE cy ad x k c j) (hP : GG D cy ad x H) : GG D cy ad y H := by
  intro q0 q hq
  obtain ⟨i, h1, h2, rfl⟩ := wl_at hq
  obtain ⟨k, c, j⟩ := i
  rw [h k c j (mem_dm h2)]
  exact hP q0 _ (by unfold wl; rw [List.getElem?_map, h1]; rfl)
theorem rm_get (hc : CX p s m args meth c cc nL own ret D cy ad) {index ci f k c0 j : Nat} {fs : List Value} {v : Value} (hd : decode cc pc = .ok (.getfield index, 3)) (hf : FL own index ci f) (hm : dm k c0 j) (hE : EE cy ad x k c0 j = .inr (ci, fs)) (hv : fs[f]? = some v) (kk : RM p l e R s m args below meth c nL A (GG D cy ad x) nc ns Q (pc + 3) ls (v :: st)) : RM p l e R s m args below meth c nL A (GG D cy ad x) nc ns Q pc ls (.ref (ad k c0 j) :: st) := by
  intro H locs la hP hS hl
  obtain ⟨C, T, N, h1, h2, h3⟩ := hf
  obtain ⟨q0, hq, -⟩ := wl_get (cy := cy) (ad := ad) x hm
  rw [hE] at hq
  exact va_get (ci := ci) (T := T) (N := N) hc.1.1 hc.1.2.1 hc.1.2.2.2.2 (fwTB _ (List.mem_of_getElem? h1)) hc.1.2.2.2.1 hc.2.2.2.1 hP q0 hq h1 f h2 (hc.1.2.2.2.2 _ h3) (fun _ h => h) hv hd (kk H locs la hP hS hl)
theorem rm_geti (hc : CX p s m args meth c cc nL own ret D cy ad) {index ci f k c0 j : Nat} {fs : List Value} {w : Int32} (hd : decode cc pc = .ok (.getfield index, 3)) (hf : FL own index ci f) (hm : dm k c0 j) (hE : EE cy ad x k c0 j = .inr (ci, fs)) (hv : fs[f]? = some (.int w)) (kk : ∀ v : Int32, v = w → RM p l e R s m args below meth c nL A (GG D cy ad x) nc ns Q (pc + 3) ls (.int v :: st)) : RM p l e R s m args below meth c nL A (GG D cy ad x) nc ns Q pc ls (.ref (ad k c0 j) :: st) :=
  rm_get hc hd hf hm hE hv (kk _ rfl)
theorem rm_put (hc : CX p s m args meth c cc nL own ret D cy ad) {index ci f k c0 j : Nat} {fs : List Value} {v : Int32} {y : Mem} {ty : FieldType} (hd : decode cc pc = .ok (.putfield index, 3)) (hf : FL own index ci f) (hm : dm k c0 j) (hE : EE cy ad x k c0 j = .inr (ci, fs)) (hl2 : f < fs.length) (hT : ∀ q, vwCl[ci]? = some q → (q.2.1 f).2.2.2 = false ∧ parseFieldDescriptor (q.2.1 f).2.2.1 = some ty) (hn : narrow ty (.int v) = .int v) (hfit : fits ty (.int v) = true) (hs : SO cy ad x y k c0 j (.inr (ci, fs.set f (.int v)))) (kk : RM p l e R s m args below meth c nL (AA ad s.heap.size) (GG D cy ad y) nc ns Q (pc + 3) ls st) : RM p l e R s m args below meth c nL (AA ad s.heap.size) (GG D cy ad x) nc ns Q pc ls (.int v :: .ref (ad k c0 j) :: st) := by
  intro H locs la hP hS hl
  obtain ⟨C, T, N, h1, h2, h3⟩ := hf
  obtain ⟨q0, hq, hi⟩ := wl_get (cy := cy) (ad := ad) x hm
  rw [hE] at hq
  have hmem := List.mem_of_getElem? h1
  refine va_put (ci := ci) (T := T) (N := N) (A := AA ad s.heap.size) hc.1.1 hc.1.2.1 hc.1.2.2.2.2 (fwTB _ hmem) _ (ty_of hmem) (nmTB _ hmem) hc.1.2.2.2.1 hc.2.2.2.1 hP (wl_D hc.2.2.2.2.1 AA_in) hS q0 hq h1 f h2 (hc.1.2.2.2.2 _ h3) (fun _ h => h) (hT _ h1).1 (hT _ h1).2 hn hfit hl2 hd (fun H1 locs1 hP1 hD1 hS1 => ?_)
  have e := wl_set (cy := cy) (ad := ad) (x := x) (y := y) hi hs.2
  rw [hs.1] at e
  rw [e] at hP1
  exact kk H1 locs1 la hP1 hS1 hl
theorem rm_aald (hc : CX p s m args meth c cc nL own ret D cy ad) {k c0 j t0 n i : Nat} {cA : ClassId} {C : String} {f : Nat → Option Nat} {iv : Int32} {v : Value} (hd : decode cc pc = .ok (.aaload, 1)) (hm : dm k c0 j) (hE : EE cy ad x k c0 j = .inl (cA, n, .inr (.inr (.inr (.inr f))))) (ht : (tys cy)[t0]? = some (cA, .object C)) (hi : i < n) (hn : n < 2 ^ 31) (hiv : iv = nI i) (hv : va_rf (f i) = v) (kk : RM p l e R s m args below meth c nL A (GG D cy ad x) nc ns Q (pc + 1) ls (v :: st)) : RM p l e R s m args below meth c nL A (GG D cy ad x) nc ns Q pc ls (.int iv :: .ref (ad k c0 j) :: st) := by
  intro H locs la hP hS hl
  obtain ⟨q0, hq, -⟩ := wl_get (cy := cy) (ad := ad) x hm
  rw [hE] at hq
  subst hiv
  refine va_aldq hc.1.1 hc.1.2.1 hc.2.2.2.1 hP q0 t0 hq ht (vp_in_nI hi hn) hd ?_
  rw [nI_clamp (by omega), hv]
  exact kk H locs la hP hS hl
theorem rm_iald (hc : CX p s m args meth c cc nL own ret D cy ad) {k c0 j n i : Nat} {f : Nat → Int32} {iv : Int32} (hd : decode cc pc = .ok (.iaload, 1)) (hm : dm k c0 j) (hE : EE cy ad x k c0 j = .inl (cy 0, n, .inl f)) (hi : i < n) (hn : n < 2 ^ 31) (hiv : iv = nI i) (kk : ∀ v : Int32, v = f i → RM p l e R s m args below meth c nL A (GG D cy ad x) nc ns Q (pc + 1) ls (.int v :: st)) : RM p l e R s m args below meth c nL A (GG D cy ad x) nc ns Q pc ls (.int iv :: .ref (ad k c0 j) :: st) := by
  intro H locs la hP hS hl
  obtain ⟨q0, hq, -⟩ := wl_get (cy := cy) (ad := ad) x hm
  rw [hE] at hq
  subst hiv
  refine va_iald hc.1.1 hc.1.2.1 hc.2.2.2.1 hP q0 0 hq rfl (vp_in_nI hi hn) hd ?_
  rw [nI_clamp (by omega)]
  exact kk _ rfl H locs la hP hS hl
theorem rm_iast (hc : CX p s m args meth c cc nL own ret D cy ad) {k c0 j n i : Nat} {f : Nat → Int32} {iv v : Int32} {y : Mem} (hd : decode cc pc = .ok (.iastore, 1)) (hm : dm k c0 j) (hE : EE cy ad x k c0 j = .inl (cy 0, n, .inl f)) (hi : i < n) (hn : n < 2 ^ 31) (hiv : iv = nI i) (hs : SO cy ad x y k c0 j (.inl (cy 0, n, .inl (upd f i v)))) (kk : RM p l e R s m args below meth c nL (AA ad s.heap.size) (GG D cy ad y) nc ns Q (pc + 1) ls st) : RM p l e R s m args below meth c nL (AA ad s.heap.size) (GG D cy ad x) nc ns Q pc ls (.int v :: .int iv :: .ref (ad k c0 j) :: st) := by
  intro H locs la hP hS hl
  obtain ⟨q0, hq, hix⟩ := wl_get (cy := cy) (ad := ad) x hm
  rw [hE] at hq
  subst hiv
  refine va_iast (A := AA ad s.heap.size) hc.1.1 hc.1.2.1 hc.2.2.2.1 hP (wl_D hc.2.2.2.2.1 AA_in) hS q0 0 hq rfl (vp_in_nI hi hn) hd (fun H1 locs1 hP1 hD1 hS1 => ?_)
  rw [nI_clamp (by omega)] at hP1
  have e := wl_set (cy := cy) (ad := ad) (x := x) (y := y) hix hs.2
  rw [hs.1] at e
  rw [e] at hP1
  exact kk H1 locs1 la hP1 hS1 hl
theorem rm_alen (hc : CX p s m args meth c cc nL own ret D cy ad) {k c0 j n t0 : Nat} {cA : ClassId} {ty : FieldType} {z : vp_A} {v : Int32} (hd : decode cc pc = .ok (.arraylength, 1)) (hm : dm k c0 j) (hE : EE cy ad x k c0 j = .inl (cA, z)) (ht : (tys cy)[t0]? = some (cA, ty)) (hv : Int32.ofNat z.1 = v) (kk : RM p l e R s m args below meth c nL A (GG D cy ad x) nc ns Q (pc + 1) ls (.int v :: st)) : RM p l e R s m args below meth c nL A (GG D cy ad x) nc ns Q pc ls (.ref (ad k c0 j) :: st) := by
  intro H locs la hP hS hl
  obtain ⟨q0, hq, -⟩ := wl_get (cy := cy) (ad := ad) x hm
  rw [hE] at hq
  exact va_alen hc.1.1 hc.1.2.1 hc.2.2.2.1 hP q0 t0 hq ht hv hd (kk H locs la hP hS hl)
theorem rm_iret (hc : CX p s m args meth c cc nL own (some .int) D cy ad) {v : Int32} {post : Int32 → Mem → Prop} (hd : decode cc pc = .ok (.ireturn, 1)) (hp : post v x) : RM p l e R s m args below meth c nL (AA ad s.heap.size) (GG D cy ad x) 0 0 (QQ (Qi D cy ad post) below args s ad) pc ls [.int v] := by
  intro H locs la hP hS hl
  have hlk : meth.locks = false := hc.2.2.1
  exact W.iret hc.1.1 hc.1.2.1 hc.2.1 (fun t ht hW => ⟨⟨v, x, rfl, hp, by show va_P D vwCl (wl cy ad x) t.heap; rw [ht]; exact hP⟩, hS.F ht⟩) hS.2.2 hd
theorem rm_lret (hc : CX p s m args meth c cc nL own (some .long) D cy ad) {v : Int64} {post : Int64 → Mem → Prop} (hd : decode cc pc = .ok (.lreturn, 1)) (hp : post v x) : RM p l e R s m args below meth c nL (AA ad s.heap.size) (GG D cy ad x) 0 0 (QQ (Ql D cy ad post) below args s ad) pc ls [.long v] := by
  intro H locs la hP hS hl
  have hlk : meth.locks = false := hc.2.2.1
  exact W.lret hc.1.1 hc.1.2.1 hc.2.1 (fun t ht hW => ⟨⟨v, x, rfl, hp, by show va_P D vwCl (wl cy ad x) t.heap; rw [ht]; exact hP⟩, hS.F ht⟩) hS.2.2 hd
theorem rm_dret (hc : CX p s m args meth c cc nL own (some .double) D cy ad) {v : UInt64} {post : UInt64 → Mem → Prop} (hd : decode cc pc = .ok (.dreturn, 1)) (hp : post v x) : RM p l e R s m args below meth c nL (AA ad s.heap.size) (GG D cy ad x) 0 0 (QQ (Qd D cy ad post) below args s ad) pc ls [.double v] := by
  intro H locs la hP hS hl
  have hlk : meth.locks = false := hc.2.2.1
  exact W.dret hc.1.1 hc.1.2.1 hc.2.1 (fun t ht hW => ⟨⟨v, x, rfl, hp, by show va_P D vwCl (wl cy ad x) t.heap; rw [ht]; exact hP⟩, hS.F ht⟩) hS.2.2 hd
theorem rm_zret (hc : CX p s m args meth c cc nL own (some .boolean) D cy ad) {v : Int32} {post : Int32 → Mem → Prop} (hd : decode cc pc = .ok (.ireturn, 1)) (hn : narrow .boolean (.int v) = .int v) (hp : post v x) : RM p l e R s m args below meth c nL (AA ad s.heap.size) (GG D cy ad x) 0 0 (QQ (Qi D cy ad post) below args s ad) pc ls [.int v] := by
  intro H locs la hP hS hl
  have hlk : meth.locks = false := hc.2.2.1
  exact W.zret hc.1.1 hc.1.2.1 hc.2.1 hn (fun t ht hW => ⟨⟨v, x, rfl, hp, by show va_P D vwCl (wl cy ad x) t.heap; rw [ht]; exact hP⟩, hS.F ht⟩) hS.2.2 hd
theorem rm_vret (hc : CX p s m args meth c cc nL own none D cy ad) {post : Mem → Prop} (hd : decode cc pc = .ok (.return_, 1)) (hp : post x) : RM p l e R s m args below meth c nL (AA ad s.heap.size) (GG D cy ad x) 0 0 (QQ (Qv D cy ad post) below args s ad) pc ls [] := by
  intro H locs la hP hS hl
  have hlk : meth.locks = false := hc.2.2.1
  exact W.vret hc.1.1 hc.1.2.1 hc.2.1 (fun t ht hW => ⟨⟨x, rfl, hp, by show va_P D vwCl (wl cy ad x) t.heap; rw [ht]; exact hP⟩, hS.F ht⟩) hS.2.2 hd
/-- a method that is called by the entry 'index' of own's file -/
def ML (own : String) (index : Nat) (y : MethodName) (bytes : ByteArray) (maxL : Nat) (rt : Option FieldType) (n : Nat) : Prop := Cond.methodLink own index y ∈ TB ∧ Cond.initialized y.cls ∈ TB ∧ Cond.code y bytes maxL rt ∈ TB ∧ (y.cls ≠ "java/lang/invoke/MethodHandle" ∧ y.cls ≠ "java/lang/invoke/VarHandle" ∧ (parseMethodDescriptor y.desc).map (fun d => d.parameters.length) = some n)
def MV (own : String) (index : Nat) (y : MethodName) (bytes : ByteArray) (maxL : Nat) (rt : Option FieldType) (n : Nat) : Prop := ML own index y bytes maxL rt n ∧ Cond.instanceMethod y ∈ TB ∧ Cond.selects y.cls y y ∈ TB
def MS (own : String) (index : Nat) (y : MethodName) (bytes : ByteArray) (maxL : Nat) (rt : Option FieldType) (n : Nat) : Prop := ML own index y bytes maxL rt n ∧ Cond.static y ∈ TB
def MN (own : String) (index : Nat) (y : MethodName) (host : String) (bytes : ByteArray) (maxL : Nat) (rt : Option FieldType) (n : Nat) : Prop := ((own, index, y, host) ∈ nestL ∧ Cond.initialized y.cls ∈ TB ∧ Cond.code y bytes maxL rt ∈ TB ∧ (y.cls ≠ "java/lang/invoke/MethodHandle" ∧ y.cls ≠ "java/lang/invoke/VarHandle" ∧ (parseMethodDescriptor y.desc).map (fun d => d.parameters.length) = some n)) ∧ Cond.static y ∈ TB
def RmOk (rm R : Room) (maxL : Nat) : Prop := (rm.cells = 0 ∧ rm.slots = 0) ∧ rm.frames + 1 ≤ R.frames ∧ 8 + (maxL + 11) + rm.locals ≤ R.locals
theorem rm_calliV (hc : CX p s m args meth c cc nL own ret D cy ad) {y0 : MethodName} {bytes : ByteArray} {maxL n : Nat} {rt : Option FieldType} {rm : Room} {index : Nat} {As rest : List Value} {post : Int32 → Mem → Prop} {k c0 j ci N : Nat} {T : u_T} {fs : List Value} (hd : decode cc pc = .ok (.invokevirtual index, 3)) (hC : Cti l y0 bytes maxL rt rm D cy ad (.ref (ad k c0 j) :: As) x post) (hL : MV own index y0 bytes maxL rt n) (hm : dm k c0 j) (hE : EE cy ad x k c0 j = .inr (ci, fs)) (hcl : vwCl[ci]? = some (y0.cls, T, N)) (hn : As.length = n) (hst : st = As.reverse ++ .ref (ad k c0 j) :: rest) (hw : (rest.map fun v => v.category).sum ≤ 8) (hR : RmOk rm R maxL) (hnc : nc ≤ R.cells ∧ ns ≤ R.slots) (kk : ∀ (r : Int32) (y : Mem), post r y → RM p l e R s m args below meth c nL (AA ad s.heap.size) (GG D cy ad y) nc ns Q (pc + 3) ls (.int r :: rest)) : RM p l e R s m args below meth c nL (AA ad s.heap.size) (GG D cy ad x) nc ns Q pc ls st := by
  intro H locs la hP hS hl
  subst hst
  have hF : ∀ q, AA ad H.size q → AA ad s.heap.size q := fun q h => h.elim Or.inl (fun h => Or.inr (Nat.le_trans hS.1 h))
  obtain ⟨q0, hq, -⟩ := wl_get (cy := cy) (ad := ad) x hm
  rw [hE] at hq
  have cw : CallW R s args own y0.cls index y0 bytes maxL rt (.code y0 bytes maxL rt :: TB) rm 0 0 n := ⟨callB_of n hc.1.2.2.2.2 (goodTB hL.1.2.2.1) rfl hR.1.1 hR.1.2 (hc.1.2.2.2.2 _ hL.1.2.1) (hc.1.2.2.2.2 _ hL.1.1) hL.1.2.2.2 hR.2, hc.1.2.2.2.2 _ hL.2.1, hc.1.2.2.2.2 _ hL.2.2⟩
  exact va_calli (va_runV (As := As) (rest := rest) hc.1 (hC H.size) cw ⟨fun a U g mk q => by obtain ⟨q0, q1, qP, qK, qN⟩ := q; exact ⟨q0, q1, qP, va_K.moved (u := U) (U := U.calling g mk a) (Vm.Alike.refl U.vm) qK, NW.same (u := U) (U := U.calling g mk a) rfl qN⟩, va_recv hc.2.2.2.1 hP hcl hq, fun U hU hW => ⟨rfl, by rw [hU], by rw [hU]; exact hP, va_K.moved hW.alike hc.2.2.2.1, hc.2.2.2.2.2.warm hW⟩⟩ rfl hn hl.1 rfl (lv_room hw) hd ⟨hnc.1, hnc.2⟩) (hS) (fun q _ h => hF q h) hF (fun r u t H1 locs1 ht hvm hw hB hz1 hk1 hS1 => kk r u hw H1 locs1 la (by rw [← ht]; exact hB) hS1 hl)
theorem rm_calliS (hc : CX p s m args meth c cc nL own ret D cy ad) {y0 : MethodName} {bytes : ByteArray} {maxL n : Nat} {rt : Option FieldType} {rm : Room} {index : Nat} {As rest : List Value} {post : Int32 → Mem → Prop} (hd : decode cc pc = .ok (.invokestatic index, 3)) (hC : Cti l y0 bytes maxL rt rm D cy ad As x post) (hL : MS own index y0 bytes maxL rt n) (hn : As.length = n) (hst : st = As.reverse ++ rest) (hw : (rest.map fun v => v.category).sum ≤ 8) (hR : RmOk rm R maxL) (hnc : nc ≤ R.cells ∧ ns ≤ R.slots) (kk : ∀ (r : Int32) (y : Mem), post r y → RM p l e R s m args below meth c nL (AA ad s.heap.size) (GG D cy ad y) nc ns Q (pc + 3) ls (.int r :: rest)) : RM p l e R s m args below meth c nL (AA ad s.heap.size) (GG D cy ad x) nc ns Q pc ls st := by
  intro H locs la hP hS hl
  subst hst
  have hF : ∀ q, AA ad H.size q → AA ad s.heap.size q := fun q h => h.elim Or.inl (fun h => Or.inr (Nat.le_trans hS.1 h))
  exact va_calli (va_runS (As := As) (rest := rest) hc.1 (hC H.size) ⟨callB_of n hc.1.2.2.2.2 (goodTB hL.1.2.2.1) rfl hR.1.1 hR.1.2 (hc.1.2.2.2.2 _ hL.1.2.1) (hc.1.2.2.2.2 _ hL.1.1) hL.1.2.2.2 hR.2, hc.1.2.2.2.2 _ hL.2⟩ ⟨fun a U g mk q => by obtain ⟨q0, q1, qP, qK, qN⟩ := q; exact ⟨q0, q1, qP, va_K.moved (u := U) (U := U.calling g mk a) (Vm.Alike.refl U.vm) qK, NW.same (u := U) (U := U.calling g mk a) rfl qN⟩, fun U hU hW => ⟨rfl, by rw [hU], by rw [hU]; exact hP, va_K.moved hW.alike hc.2.2.2.1, hc.2.2.2.2.2.warm hW⟩⟩ rfl hn hl.1 rfl (lv_room hw) hd ⟨hnc.1, hnc.2⟩) (hS) (fun q _ h => hF q h) hF (fun r u t H1 locs1 ht hvm hw hB hz1 hk1 hS1 => kk r u hw H1 locs1 la (by rw [← ht]; exact hB) hS1 hl)
theorem rm_calliN (hc : CX p s m args meth c cc nL own ret D cy ad) {y0 : MethodName} {bytes : ByteArray} {maxL n : Nat} {rt : Option FieldType} {rm : Room} {index : Nat} {As rest : List Value} {post : Int32 → Mem → Prop} {host : String} (hd : decode cc pc = .ok (.invokestatic index, 3)) (hC : Cti l y0 bytes maxL rt rm D cy ad As x post) (hL : MN own index y0 host bytes maxL rt n) (hn : As.length = n) (hst : st = As.reverse ++ rest) (hw : (rest.map fun v => v.category).sum ≤ 8) (hR : RmOk rm R maxL) (hnc : nc ≤ R.cells ∧ ns ≤ R.slots) (kk : ∀ (r : Int32) (y : Mem), post r y → RM p l e R s m args below meth c nL (AA ad s.heap.size) (GG D cy ad y) nc ns Q (pc + 3) ls (.int r :: rest)) : RM p l e R s m args below meth c nL (AA ad s.heap.size) (GG D cy ad x) nc ns Q pc ls st := by
  intro H locs la hP hS hl
  subst hst
  have hF : ∀ q, AA ad H.size q → AA ad s.heap.size q := fun q h => h.elim Or.inl (fun h => Or.inr (Nat.le_trans hS.1 h))
  exact va_calli (va_runSN (As := As) (rest := rest) hc.1 (hC H.size) ⟨va_cnB n hc.1.2.2.2.2 (goodTB hL.1.2.2.1) rfl hR.1.1 hR.1.2 (hc.2.2.2.2.2 _ hL.1.1) (hc.1.2.2.2.2 _ hL.1.2.1) hL.1.2.2.2 hR.2, hc.1.2.2.2.2 _ hL.2, trivial⟩ ⟨fun a U g mk q => by obtain ⟨q0, q1, qP, qK, qN⟩ := q; exact ⟨q0, q1, qP, va_K.moved (u := U) (U := U.calling g mk a) (Vm.Alike.refl U.vm) qK, NW.same (u := U) (U := U.calling g mk a) rfl qN⟩, fun U hU hW => ⟨rfl, by rw [hU], by rw [hU]; exact hP, va_K.moved hW.alike hc.2.2.2.1, hc.2.2.2.2.2.warm hW⟩⟩ rfl hn hl.1 rfl (lv_room hw) hd ⟨hnc.1, hnc.2⟩) (hS) (fun q _ h => hF q h) hF (fun r u t H1 locs1 ht hvm hw hB hz1 hk1 hS1 => kk r u hw H1 locs1 la (by rw [← ht]; exact hB) hS1 hl)
theorem rm_calllV (hc : CX p s m args meth c cc nL own ret D cy ad) {y0 : MethodName} {bytes : ByteArray} {maxL n : Nat} {rt : Option FieldType} {rm : Room} {index : Nat} {As rest : List Value} {post : Int64 → Mem → Prop} {k c0 j ci N : Nat} {T : u_T} {fs : List Value} (hd : decode cc pc = .ok (.invokevirtual index, 3)) (hC : Ctl l y0 bytes maxL rt rm D cy ad (.ref (ad k c0 j) :: As) x post) (hL : MV own index y0 bytes maxL rt n) (hm : dm k c0 j) (hE : EE cy ad x k c0 j = .inr (ci, fs)) (hcl : vwCl[ci]? = some (y0.cls, T, N)) (hn : As.length = n) (hst : st = As.reverse ++ .ref (ad k c0 j) :: rest) (hw : (rest.map fun v => v.category).sum ≤ 8) (hR : RmOk rm R maxL) (hnc : nc ≤ R.cells ∧ ns ≤ R.slots) (kk : ∀ (r : Int64) (y : Mem), post r y → RM p l e R s m args below meth c nL (AA ad s.heap.size) (GG D cy ad y) nc ns Q (pc + 3) ls (.long r :: rest)) : RM p l e R s m args below meth c nL (AA ad s.heap.size) (GG D cy ad x) nc ns Q pc ls st := by
  intro H locs la hP hS hl
  subst hst
  have hF : ∀ q, AA ad H.size q → AA ad s.heap.size q := fun q h => h.elim Or.inl (fun h => Or.inr (Nat.le_trans hS.1 h))
  obtain ⟨q0, hq, -⟩ := wl_get (cy := cy) (ad := ad) x hm
  rw [hE] at hq
  have cw : CallW R s args own y0.cls index y0 bytes maxL rt (.code y0 bytes maxL rt :: TB) rm 0 0 n := ⟨callB_of n hc.1.2.2.2.2 (goodTB hL.1.2.2.1) rfl hR.1.1 hR.1.2 (hc.1.2.2.2.2 _ hL.1.2.1) (hc.1.2.2.2.2 _ hL.1.1) hL.1.2.2.2 hR.2, hc.1.2.2.2.2 _ hL.2.1, hc.1.2.2.2.2 _ hL.2.2⟩
  exact va_calll (va_runV (As := As) (rest := rest) hc.1 (hC H.size) cw ⟨fun a U g mk q => by obtain ⟨q0, q1, qP, qK, qN⟩ := q; exact ⟨q0, q1, qP, va_K.moved (u := U) (U := U.calling g mk a) (Vm.Alike.refl U.vm) qK, NW.same (u := U) (U := U.calling g mk a) rfl qN⟩, va_recv hc.2.2.2.1 hP hcl hq, fun U hU hW => ⟨rfl, by rw [hU], by rw [hU]; exact hP, va_K.moved hW.alike hc.2.2.2.1, hc.2.2.2.2.2.warm hW⟩⟩ rfl hn hl.1 rfl (lv_room hw) hd ⟨hnc.1, hnc.2⟩) (hS) (fun q _ h => hF q h) hF (fun r u t H1 locs1 ht hvm hw hB hz1 hk1 hS1 => kk r u hw H1 locs1 la (by rw [← ht]; exact hB) hS1 hl)
theorem rm_calllS (hc : CX p s m args meth c cc nL own ret D cy ad) {y0 : MethodName} {bytes : ByteArray} {maxL n : Nat} {rt : Option FieldType} {rm : Room} {index : Nat} {As rest : List Value} {post : Int64 → Mem → Prop} (hd : decode cc pc = .ok (.invokestatic index, 3)) (hC : Ctl l y0 bytes maxL rt rm D cy ad As x post) (hL : MS own index y0 bytes maxL rt n) (hn : As.length = n) (hst : st = As.reverse ++ rest) (hw : (rest.map fun v => v.category).sum ≤ 8) (hR : RmOk rm R maxL) (hnc : nc ≤ R.cells ∧ ns ≤ R.slots) (kk : ∀ (r : Int64) (y : Mem), post r y → RM p l e R s m args below meth c nL (AA ad s.heap.size) (GG D cy ad y) nc ns Q (pc + 3) ls (.long r :: rest)) : RM p l e R s m args below meth c nL (AA ad s.heap.size) (GG D cy ad x) nc ns Q pc ls st := by
  intro H locs la hP hS hl
  subst hst
  have hF : ∀ q, AA ad H.size q → AA ad s.heap.size q := fun q h => h.elim Or.inl (fun h => Or.inr (Nat.le_trans hS.1 h))
  exact va_calll (va_runS (As := As) (rest := rest) hc.1 (hC H.size) ⟨callB_of n hc.1.2.2.2.2 (goodTB hL.1.2.2.1) rfl hR.1.1 hR.1.2 (hc.1.2.2.2.2 _ hL.1.2.1) (hc.1.2.2.2.2 _ hL.1.1) hL.1.2.2.2 hR.2, hc.1.2.2.2.2 _ hL.2⟩ ⟨fun a U g mk q => by obtain ⟨q0, q1, qP, qK, qN⟩ := q; exact ⟨q0, q1, qP, va_K.moved (u := U) (U := U.calling g mk a) (Vm.Alike.refl U.vm) qK, NW.same (u := U) (U := U.calling g mk a) rfl qN⟩, fun U hU hW => ⟨rfl, by rw [hU], by rw [hU]; exact hP, va_K.moved hW.alike hc.2.2.2.1, hc.2.2.2.2.2.warm hW⟩⟩ rfl hn hl.1 rfl (lv_room hw) hd ⟨hnc.1, hnc.2⟩) (hS) (fun q _ h => hF q h) hF (fun r u t H1 locs1 ht hvm hw hB hz1 hk1 hS1 => kk r u hw H1 locs1 la (by rw [← ht]; exact hB) hS1 hl)
theorem rm_calldV (hc : CX p s m args meth c cc nL own ret D cy ad) {y0 : MethodName} {bytes : ByteArray} {maxL n : Nat} {rt : Option FieldType} {rm : Room} {index : Nat} {As rest : List Value} {post : UInt64 → Mem → Prop} {k c0 j ci N : Nat} {T : u_T} {fs : List Value} (hd : decode cc pc = .ok (.invokevirtual index, 3)) (hC : Ctd l y0 bytes maxL rt rm D cy ad (.ref (ad k c0 j) :: As) x post) (hL : MV own index y0 bytes maxL rt n) (hm : dm k c0 j) (hE : EE cy ad x k c0 j = .inr (ci, fs)) (hcl : vwCl[ci]? = some (y0.cls, T, N)) (hn : As.length = n) (hst : st = As.reverse ++ .ref (ad k c0 j) :: rest) (hw : (rest.map fun v => v.category).sum ≤ 8) (hR : RmOk rm R maxL) (hnc : nc ≤ R.cells ∧ ns ≤ R.slots) (kk : ∀ (r : UInt64) (y : Mem), post r y → RM p l e R s m args below meth c nL (AA ad s.heap.size) (GG D cy ad y) nc ns Q (pc + 3) ls (.double r :: rest)) : RM p l e R s m args below meth c nL (AA ad s.heap.size) (GG D cy ad x) nc ns Q pc ls st := by
  intro H locs la hP hS hl
  subst hst
  have hF : ∀ q, AA ad H.size q → AA ad s.heap.size q := fun q h => h.elim Or.inl (fun h => Or.inr (Nat.le_trans hS.1 h))
  obtain ⟨q0, hq, -⟩ := wl_get (cy := cy) (ad := ad) x hm
  rw [hE] at hq
  have cw : CallW R s args own y0.cls index y0 bytes maxL rt (.code y0 bytes maxL rt :: TB) rm 0 0 n := ⟨callB_of n hc.1.2.2.2.2 (goodTB hL.1.2.2.1) rfl hR.1.1 hR.1.2 (hc.1.2.2.2.2 _ hL.1.2.1) (hc.1.2.2.2.2 _ hL.1.1) hL.1.2.2.2 hR.2, hc.1.2.2.2.2 _ hL.2.1, hc.1.2.2.2.2 _ hL.2.2⟩
  exact va_calld (va_runV (As := As) (rest := rest) hc.1 (hC H.size) cw ⟨fun a U g mk q => by obtain ⟨q0, q1, qP, qK, qN⟩ := q; exact ⟨q0, q1, qP, va_K.moved (u := U) (U := U.calling g mk a) (Vm.Alike.refl U.vm) qK, NW.same (u := U) (U := U.calling g mk a) rfl qN⟩, va_recv hc.2.2.2.1 hP hcl hq, fun U hU hW => ⟨rfl, by rw [hU], by rw [hU]; exact hP, va_K.moved hW.alike hc.2.2.2.1, hc.2.2.2.2.2.warm hW⟩⟩ rfl hn hl.1 rfl (lv_room hw) hd ⟨hnc.1, hnc.2⟩) (hS) (fun q _ h => hF q h) hF (fun r u t H1 locs1 ht hvm hw hB hz1 hk1 hS1 => kk r u hw H1 locs1 la (by rw [← ht]; exact hB) hS1 hl)
theorem rm_calldS (hc : CX p s m args meth c cc nL own ret D cy ad) {y0 : MethodName} {bytes : ByteArray} {maxL n : Nat} {rt : Option FieldType} {rm : Room} {index : Nat} {As rest : List Value} {post : UInt64 → Mem → Prop} (hd : decode cc pc = .ok (.invokestatic index, 3)) (hC : Ctd l y0 bytes maxL rt rm D cy ad As x post) (hL : MS own index y0 bytes maxL rt n) (hn : As.length = n) (hst : st = As.reverse ++ rest) (hw : (rest.map fun v => v.category).sum ≤ 8) (hR : RmOk rm R maxL) (hnc : nc ≤ R.cells ∧ ns ≤ R.slots) (kk : ∀ (r : UInt64) (y : Mem), post r y → RM p l e R s m args below meth c nL (AA ad s.heap.size) (GG D cy ad y) nc ns Q (pc + 3) ls (.double r :: rest)) : RM p l e R s m args below meth c nL (AA ad s.heap.size) (GG D cy ad x) nc ns Q pc ls st := by
  intro H locs la hP hS hl
  subst hst
  have hF : ∀ q, AA ad H.size q → AA ad s.heap.size q := fun q h => h.elim Or.inl (fun h => Or.inr (Nat.le_trans hS.1 h))
  exact va_calld (va_runS (As := As) (rest := rest) hc.1 (hC H.size) ⟨callB_of n hc.1.2.2.2.2 (goodTB hL.1.2.2.1) rfl hR.1.1 hR.1.2 (hc.1.2.2.2.2 _ hL.1.2.1) (hc.1.2.2.2.2 _ hL.1.1) hL.1.2.2.2 hR.2, hc.1.2.2.2.2 _ hL.2⟩ ⟨fun a U g mk q => by obtain ⟨q0, q1, qP, qK, qN⟩ := q; exact ⟨q0, q1, qP, va_K.moved (u := U) (U := U.calling g mk a) (Vm.Alike.refl U.vm) qK, NW.same (u := U) (U := U.calling g mk a) rfl qN⟩, fun U hU hW => ⟨rfl, by rw [hU], by rw [hU]; exact hP, va_K.moved hW.alike hc.2.2.2.1, hc.2.2.2.2.2.warm hW⟩⟩ rfl hn hl.1 rfl (lv_room hw) hd ⟨hnc.1, hnc.2⟩) (hS) (fun q _ h => hF q h) hF (fun r u t H1 locs1 ht hvm hw hB hz1 hk1 hS1 => kk r u hw H1 locs1 la (by rw [← ht]; exact hB) hS1 hl)
theorem rm_callvV (hc : CX p s m args meth c cc nL own ret D cy ad) {y0 : MethodName} {bytes : ByteArray} {maxL n : Nat} {rt : Option FieldType} {rm : Room} {index : Nat} {As rest : List Value} {post : Mem → Prop} {k c0 j ci N : Nat} {T : u_T} {fs : List Value} (hd : decode cc pc = .ok (.invokevirtual index, 3)) (hC : Ctv l y0 bytes maxL rt rm D cy ad (.ref (ad k c0 j) :: As) x post) (hL : MV own index y0 bytes maxL rt n) (hm : dm k c0 j) (hE : EE cy ad x k c0 j = .inr (ci, fs)) (hcl : vwCl[ci]? = some (y0.cls, T, N)) (hn : As.length = n) (hst : st = As.reverse ++ .ref (ad k c0 j) :: rest) (hw : (rest.map fun v => v.category).sum ≤ 8) (hR : RmOk rm R maxL) (hnc : nc ≤ R.cells ∧ ns ≤ R.slots) (kk : ∀ (y : Mem), post y → RM p l e R s m args below meth c nL (AA ad s.heap.size) (GG D cy ad y) nc ns Q (pc + 3) ls rest) : RM p l e R s m args below meth c nL (AA ad s.heap.size) (GG D cy ad x) nc ns Q pc ls st := by
  intro H locs la hP hS hl
  subst hst
  have hF : ∀ q, AA ad H.size q → AA ad s.heap.size q := fun q h => h.elim Or.inl (fun h => Or.inr (Nat.le_trans hS.1 h))
  obtain ⟨q0, hq, -⟩ := wl_get (cy := cy) (ad := ad) x hm
  rw [hE] at hq
  have cw : CallW R s args own y0.cls index y0 bytes maxL rt (.code y0 bytes maxL rt :: TB) rm 0 0 n := ⟨callB_of n hc.1.2.2.2.2 (goodTB hL.1.2.2.1) rfl hR.1.1 hR.1.2 (hc.1.2.2.2.2 _ hL.1.2.1) (hc.1.2.2.2.2 _ hL.1.1) hL.1.2.2.2 hR.2, hc.1.2.2.2.2 _ hL.2.1, hc.1.2.2.2.2 _ hL.2.2⟩
  exact va_callv (va_runV (As := As) (rest := rest) hc.1 (hC H.size) cw ⟨fun a U g mk q => by obtain ⟨q0, q1, qP, qK, qN⟩ := q; exact ⟨q0, q1, qP, va_K.moved (u := U) (U := U.calling g mk a) (Vm.Alike.refl U.vm) qK, NW.same (u := U) (U := U.calling g mk a) rfl qN⟩, va_recv hc.2.2.2.1 hP hcl hq, fun U hU hW => ⟨rfl, by rw [hU], by rw [hU]; exact hP, va_K.moved hW.alike hc.2.2.2.1, hc.2.2.2.2.2.warm hW⟩⟩ rfl hn hl.1 rfl (lv_room hw) hd ⟨hnc.1, hnc.2⟩) (hS) (fun q _ h => hF q h) hF (fun u t H1 locs1 ht hvm hw hB hz1 hk1 hS1 => kk u hw H1 locs1 la (by rw [← ht]; exact hB) hS1 hl)
theorem rm_callvS (hc : CX p s m args meth c cc nL own ret D cy ad) {y0 : MethodName} {bytes : ByteArray} {maxL n : Nat} {rt : Option FieldType} {rm : Room} {index : Nat} {As rest : List Value} {post : Mem → Prop} (hd : decode cc pc = .ok (.invokestatic index, 3)) (hC : Ctv l y0 bytes maxL rt rm D cy ad As x post) (hL : MS own index y0 bytes maxL rt n) (hn : As.length = n) (hst : st = As.reverse ++ rest) (hw : (rest.map fun v => v.category).sum ≤ 8) (hR : RmOk rm R maxL) (hnc : nc ≤ R.cells ∧ ns ≤ R.slots) (kk : ∀ (y : Mem), post y → RM p l e R s m args below meth c nL (AA ad s.heap.size) (GG D cy ad y) nc ns Q (pc + 3) ls rest) : RM p l e R s m args below meth c nL (AA ad s.heap.size) (GG D cy ad x) nc ns Q pc ls st := by
  intro H locs la hP hS hl
  subst hst
  have hF : ∀ q, AA ad H.size q → AA ad s.heap.size q := fun q h => h.elim Or.inl (fun h => Or.inr (Nat.le_trans hS.1 h))
  exact va_callv (va_runS (As := As) (rest := rest) hc.1 (hC H.size) ⟨callB_of n hc.1.2.2.2.2 (goodTB hL.1.2.2.1) rfl hR.1.1 hR.1.2 (hc.1.2.2.2.2 _ hL.1.2.1) (hc.1.2.2.2.2 _ hL.1.1) hL.1.2.2.2 hR.2, hc.1.2.2.2.2 _ hL.2⟩ ⟨fun a U g mk q => by obtain ⟨q0, q1, qP, qK, qN⟩ := q; exact ⟨q0, q1, qP, va_K.moved (u := U) (U := U.calling g mk a) (Vm.Alike.refl U.vm) qK, NW.same (u := U) (U := U.calling g mk a) rfl qN⟩, fun U hU hW => ⟨rfl, by rw [hU], by rw [hU]; exact hP, va_K.moved hW.alike hc.2.2.2.1, hc.2.2.2.2.2.warm hW⟩⟩ rfl hn hl.1 rfl (lv_room hw) hd ⟨hnc.1, hnc.2⟩) (hS) (fun q _ h => hF q h) hF (fun u t H1 locs1 ht hvm hw hB hz1 hk1 hS1 => kk u hw H1 locs1 la (by rw [← ht]; exact hB) hS1 hl)
end ROWS2
