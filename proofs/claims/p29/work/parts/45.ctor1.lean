/-! ===== constructors: words, rows over a list of cells ===== -/
def IL (own : String) (index : Nat) (y : MethodName) (bytes : ByteArray) (maxL n : Nat) : Prop := Cond.methodLink own index y ∈ TB ∧ Cond.instanceMethod y ∈ TB ∧ Cond.initialized y.cls ∈ TB ∧ Cond.code y bytes maxL none ∈ TB ∧ y.name = "<init>" ∧ (y.cls ≠ "java/lang/invoke/MethodHandle" ∧ y.cls ≠ "java/lang/invoke/VarHandle" ∧ (parseMethodDescriptor y.desc).map (fun d => d.parameters.length) = some n)
def NL (own : String) (index ci N : Nat) : Prop := ∃ (C : String) (T : u_T), vwCl[ci]? = some (C, T, N) ∧ Cond.classLink own index C ∈ TB ∧ Cond.instantiable C N ∈ TB ∧ Cond.initialized C ∈ TB
theorem ob_i : Cond.instanceMethod Lib.objectInit ∈ TB := tbm (i := 32) (by decide +kernel) (by decide +kernel)
theorem ob_c : Cond.code Lib.objectInit ⟨#[0xb1]⟩ 1 none ∈ TB := tbm (i := 33) (by decide +kernel) (by decide +kernel)
theorem ac_i : Cond.arrayClass .int ∈ TB := tbm (i := 138) (by decide +kernel) (by decide +kernel)
def AOW (U : State) : Prop := va_AO "RollingFob$Fob" U ∧ va_AO "RollingFob$Door" U ∧ va_AO "RollingFob$Slot" U ∧ va_AO "RollingFob$State" U
theorem AOW.moved {u U : State} (hvm : u.vm.Alike U.vm) (h : AOW u) : AOW U := ⟨va_AO.moved hvm h.1, va_AO.moved hvm h.2.1, va_AO.moved hvm h.2.2.1, va_AO.moved hvm h.2.2.2⟩
abbrev GW (D : va_G) (A : Nat → Prop) (ws : va_W) : Heap → Prop := fun H => va_P D vwCl ws H ∧ va_D A ws
def Cn (l : Launch) (y : MethodName) (cc : ByteArray) (nL : Nat) (rm : Room) (D : va_G) (cy : Nat → ClassId) (h0 : Nat) (As : List Value) (e0 : va_E) (mc ms : Nat) {S : Type} (W1 : S → va_W) : Prop :=
  ∀ sz, Met l y (.code y cc nL none :: TB) rm (va_Pc (.ref h0 :: As) (fun U => U.heap.size = sz ∧ va_P D vwCl [(h0, e0)] U.heap ∧ va_K D vwCl (tys cy) U ∧ NW U ∧ AOW U)) (va_Qv (fun _ : S => True) (fun z t => va_P D vwCl (W1 z) t.heap ∧ va_D (va_A [(h0, e0)] sz) (W1 z)) (va_A [(h0, e0)] sz)) mc ms (va_A [(h0, e0)] sz)
theorem RA_inj {U : State} {a b : ClassId} {ty : FieldType} (h1 : va_RA U a ty) (h2 : va_RA U b ty) : a = b := by
  cases ty with
  | object C =>
    obtain ⟨_, _, _, _, _, h1⟩ := h1
    obtain ⟨_, _, _, _, _, h2⟩ := h2
    exact Option.some.inj (h1.symm.trans h2)
  | _ => exact Option.some.inj (Eq.trans (Eq.symm h1) h2)
theorem K_inj {D : va_G} {ts : List (ClassId × FieldType)} {U : State} {a b : ClassId} {ty : FieldType} {t0 : Nat} (h : va_K D vwCl (ts ++ [(a, ty)]) U) (h0 : ts[t0]? = some (b, ty)) : a = b := by
  refine RA_inj (h.2 ts.length (a, ty) (by rw [List.getElem?_append_right (Nat.le_refl _), Nat.sub_self]; rfl)).2 (h.2 t0 (b, ty) ?_).2
  rw [List.getElem?_append_left (List.getElem?_eq_some_iff.mp h0).1]
  exact h0
theorem nd_iff : ∀ l : List Nat, va_nd l = true ↔ l.Nodup
  | [] => ⟨fun _ => List.nodup_nil, fun _ => rfl⟩
  | a :: l => by
    rw [List.nodup_cons, ← nd_iff l]
    simp only [va_nd, Bool.and_eq_true, decide_eq_true_eq]
theorem rg_map {α : Type} (wr : List α) (t : List α) : (List.range wr.length).map (fun i => (wr ++ t)[i]?) = wr.map some := by
  apply List.ext_getElem?
  intro i
  rw [List.getElem?_map, List.getElem?_map]
  by_cases h : i < wr.length
  · rw [List.getElem?_range h, List.getElem?_eq_getElem h]
    show some ((wr ++ t)[i]?) = _
    rw [List.getElem?_append_left h, List.getElem?_eq_getElem h]
    rfl
  · rw [List.getElem?_eq_none (by rw [List.length_range]; omega), List.getElem?_eq_none (by omega)]
    rfl
theorem jn_end {A0 : Nat → Prop} {D : va_G} {cl : List vw_C} {wr w1 : va_W} {q : Nat × va_E} {H H1 : Heap} (hP : va_P D cl (wr ++ [q]) H) (hD : va_D A0 (wr ++ [q])) (hk : ∀ a : Nat, a < H.size → ¬ va_A [q] H.size a → H1[a]? = H[a]?) (hF : ∀ a, va_A [q] H.size a → A0 a) (hP1 : va_P D cl w1 H1) (hD1 : va_D (va_A [q] H.size) w1) : va_P D cl (wr ++ w1) H1 ∧ va_D A0 (wr ++ w1) := by
  refine va_join hP hD [wr.length] (List.range wr.length) ?_ (rg_map wr [q]) ((nd_iff _).mpr List.nodup_range) (fun i hi hc => ?_) hk hF hP1 hD1
  · show [(wr ++ [q])[wr.length]?] = [some q]
    rw [List.getElem?_append_right (Nat.le_refl _), Nat.sub_self]
    rfl
  · have h1 := List.mem_range.mp hi
    have h2 := List.mem_singleton.mp hc
    omega
section ROWSC
variable {p : Program} {l : Launch} {e : Env} {R : Room} {s : State} {m : MethodId} {args : Array Value} {below : List Frame} {meth : Method} {c : Code} {cc : ByteArray} {nL : Nat} {own : String} {ret : Option FieldType} {D : va_G} {cy : Nat → ClassId} {ad : Ads} {A : Nat → Prop} {nc ns : Nat} {Q : State → Prop} {pc : Nat} {ls : List (Nat × Value)} {st : List Value} {ws : va_W}
theorem rc_obj (hc : CX p s m args meth c cc nL own ret D cy ad) {G : Heap → Prop} {index q : Nat} (hd : decode cc pc = .ok (.invokespecial index, 3)) (hL : Cond.methodLink own index Lib.objectInit ∈ TB) (hw : (st.map fun v => v.category).sum ≤ 8) (hR : 1 ≤ R.frames ∧ 20 ≤ R.locals)
    (kk : RM p l e R s m args below meth c nL A G nc ns Q (pc + 3) ls st) : RM p l e R s m args below meth c nL A G nc ns Q pc ls (.ref q :: st) := by
  intro H locs la hP hS hl
  exact W.objInit hc.1.1 hc.1.2.1 hc.1.2.2.2.1 (hc.1.2.2.2.2 _ hL) (hc.1.2.2.2.2 _ ob_i) (hc.1.2.2.2.2 _ ob_c) rfl (by rw [hc.1.2.2.1]; exact hl.1) rfl hd hR.1 (by show 2 * 0 + _ + 12 ≤ _; omega) (W.eq (g2 := F0 m (pc + 3) la st) rfl (kk H locs la hP hS hl))
theorem rc_new (hc : CX p s m args meth c cc nL own ret D cy ad) {index ci N : Nat} {fs : List Value} (hd : decode cc pc = .ok (.new index, 3)) (hL : NL own index ci N) (hA : ∀ q, s.heap.size ≤ q → A q) (hfs : ∀ r, vwCl[ci]? = some r → ∀ j, j < N → defaultValue ((parseFieldDescriptor (r.2.1 j).2.2.1).getD .int) = vp_V fs j) (hn : nc + 1 ≤ R.cells ∧ ns + N ≤ R.slots)
    (kk : ∀ q, RM p l e R s m args below meth c nL A (GW D A (ws ++ [(q, .inr (ci, fs))])) (nc + 1) (ns + N) Q (pc + 3) ls (.ref q :: st)) : RM p l e R s m args below meth c nL A (GW D A ws) nc ns Q pc ls st := by
  intro H locs la hPD hS hl
  obtain ⟨hP, hD⟩ := hPD
  obtain ⟨C, T, h1, h2, h3, h4⟩ := hL
  have hmem := List.mem_of_getElem? h1
  exact va_new (ci := ci) (T := T) (N := N) hc.1.1 hc.1.2.1 hc.1.2.2.2.2 (fwTB _ hmem) _ (ty_of hmem) hc.1.2.2.2.1 (hc.1.2.2.2.2 _ h2) (hc.1.2.2.2.2 _ h3) (hc.1.2.2.2.2 _ h4) hc.2.2.2.1 hP hD hS hA h1 (hfs _ h1) hn.1 hn.2 hd (fun q H1 hP1 hD1 hS1 => kk q H1 locs la ⟨hP1, hD1⟩ hS1 hl)
theorem rc_newi (hc : CX p s m args meth c cc nL own ret D cy ad) {N : Nat} {n : Int32} (hd : decode cc pc = .ok (.newarray .int, 2)) (hA : ∀ q, s.heap.size ≤ q → A q) (h0 : ¬ n < 0) (hN : n.toNatClampNeg = N) (hb : N * 4 ≤ 536870912) (hn : nc + 1 ≤ R.cells ∧ ns + N ≤ R.slots)
    (kk : ∀ q, RM p l e R s m args below meth c nL A (GW D A (ws ++ [(q, .inl (cy 0, N, .inl (fun _ => 0)))])) (nc + 1) (ns + N) Q (pc + 2) ls (.ref q :: st)) : RM p l e R s m args below meth c nL A (GW D A ws) nc ns Q pc ls (.int n :: st) := by
  intro H locs la hPD hS hl
  obtain ⟨hP, hD⟩ := hPD
  refine va_newa (atype := .int) (ty := .int) (a0 := (N, .inl (fun _ => 0))) hc.1.1 hc.1.2.1 (hc.1.2.2.2.2 _ ac_i) rfl hc.2.2.2.1 hP hD hS hA (fun _ => rfl) h0 hN hb hn.1 hn.2 hd (fun q cA H1 hK hP1 hD1 hS1 => ?_)
  obtain rfl : cA = cy 0 := K_inj hK (t0 := 0) rfl
  exact kk q H1 locs la ⟨hP1, hD1⟩ hS1 hl
theorem rc_newq (hc : CX p s m args meth c cc nL own ret D cy ad) {index t0 N : Nat} {C : String} {n : Int32} {cA : ClassId} (hd : decode cc pc = .ok (.anewarray index, 3)) (hl1 : Cond.classLink own index C ∈ TB) (hao : va_AO C s) (ht : (tys cy)[t0]? = some (cA, .object C)) (hA : ∀ q, s.heap.size ≤ q → A q) (h0 : ¬ n < 0) (hN : n.toNatClampNeg = N) (hb : N * 4 ≤ 536870912) (hn : nc + 1 ≤ R.cells ∧ ns + N ≤ R.slots)
    (kk : ∀ q, RM p l e R s m args below meth c nL A (GW D A (ws ++ [(q, .inl (cA, N, .inr (.inr (.inr (.inr (fun _ => none))))))])) (nc + 1) (ns + N) Q (pc + 3) ls (.ref q :: st)) : RM p l e R s m args below meth c nL A (GW D A ws) nc ns Q pc ls (.int n :: st) := by
  intro H locs la hPD hS hl
  obtain ⟨hP, hD⟩ := hPD
  refine va_newq hc.1.1 hc.1.2.1 hc.1.2.2.2.1 (hc.1.2.2.2.2 _ hl1) hao hc.2.2.2.1 hP hD hS hA h0 hN hb hn.1 hn.2 hd (fun q cB H1 hK hP1 hD1 hS1 => ?_)
  obtain rfl : cB = cA := K_inj hK ht
  exact kk q H1 locs la ⟨hP1, hD1⟩ hS1 hl
theorem rc_get (hc : CX p s m args meth c cc nL own ret D cy ad) {index ci f a : Nat} {fs : List Value} {v : Value} (hd : decode cc pc = .ok (.getfield index, 3)) (hf : FL own index ci f) (q0 : Nat) (he : ws[q0]? = some (a, .inr (ci, fs))) (hv : fs[f]? = some v)
    (kk : RM p l e R s m args below meth c nL A (GW D A ws) nc ns Q (pc + 3) ls (v :: st)) : RM p l e R s m args below meth c nL A (GW D A ws) nc ns Q pc ls (.ref a :: st) := by
  intro H locs la hPD hS hl
  obtain ⟨hP, hD⟩ := hPD
  obtain ⟨C, T, N, h1, h2, h3⟩ := hf
  exact va_get (ci := ci) (T := T) (N := N) hc.1.1 hc.1.2.1 hc.1.2.2.2.2 (fwTB _ (List.mem_of_getElem? h1)) hc.1.2.2.2.1 hc.2.2.2.1 hP q0 he h1 f h2 (hc.1.2.2.2.2 _ h3) (fun _ h => h) hv hd (kk H locs la ⟨hP, hD⟩ hS hl)
theorem rc_put (hc : CX p s m args meth c cc nL own ret D cy ad) {index ci f a : Nat} {fs : List Value} {v : Value} {ty : FieldType} (hd : decode cc pc = .ok (.putfield index, 3)) (hf : FL own index ci f) (q0 : Nat) (he : ws[q0]? = some (a, .inr (ci, fs))) (hl2 : f < fs.length) (hT : ∀ q, vwCl[ci]? = some q → (q.2.1 f).2.2.2 = false ∧ parseFieldDescriptor (q.2.1 f).2.2.1 = some ty) (hn : narrow ty v = v) (hfit : fits ty v = true)
    (kk : RM p l e R s m args below meth c nL A (GW D A (ws.set q0 (a, .inr (ci, fs.set f v)))) nc ns Q (pc + 3) ls st) : RM p l e R s m args below meth c nL A (GW D A ws) nc ns Q pc ls (v :: .ref a :: st) := by
  intro H locs la hPD hS hl
  obtain ⟨hP, hD⟩ := hPD
  obtain ⟨C, T, N, h1, h2, h3⟩ := hf
  have hmem := List.mem_of_getElem? h1
  exact va_put (ci := ci) (T := T) (N := N) hc.1.1 hc.1.2.1 hc.1.2.2.2.2 (fwTB _ hmem) _ (ty_of hmem) (nmTB _ hmem) hc.1.2.2.2.1 hc.2.2.2.1 hP hD hS q0 he h1 f h2 (hc.1.2.2.2.2 _ h3) (fun _ h => h) (hT _ h1).1 (hT _ h1).2 hn hfit hl2 hd (fun H1 locs1 hP1 hD1 hS1 => kk H1 locs1 la ⟨hP1, hD1⟩ hS1 hl)
theorem rc_putF (hc : CX p s m args meth c cc nL own ret D cy ad) {index ci f a : Nat} {fs : List Value} {v : Value} {ty : FieldType} (hin : meth.name = "<init>") (hd : decode cc pc = .ok (.putfield index, 3)) (hf : FL own index ci f) (q0 : Nat) (he : ws[q0]? = some (a, .inr (ci, fs))) (hl2 : f < fs.length) (hT : ∀ q, vwCl[ci]? = some q → (q.2.1 f).2.2.2 = true ∧ (q.2.1 f).1 = own ∧ parseFieldDescriptor (q.2.1 f).2.2.1 = some ty) (hn : narrow ty v = v) (hfit : fits ty v = true)
    (kk : RM p l e R s m args below meth c nL A (GW D A (ws.set q0 (a, .inr (ci, fs.set f v)))) nc ns Q (pc + 3) ls st) : RM p l e R s m args below meth c nL A (GW D A ws) nc ns Q pc ls (v :: .ref a :: st) := by
  intro H locs la hPD hS hl
  obtain ⟨hP, hD⟩ := hPD
  obtain ⟨C, T, N, h1, h2, h3⟩ := hf
  have hmem := List.mem_of_getElem? h1
  exact va_putF (ci := ci) (T := T) (N := N) hc.1.1 hc.1.2.1 hc.1.2.2.2.2 (fwTB _ hmem) _ (ty_of hmem) (nmTB _ hmem) hc.1.2.2.2.1 hc.2.2.2.1 hP hD hS q0 he h1 f h2 (hc.1.2.2.2.2 _ h3) (fun _ h => h) (hT _ h1).1 hin (hT _ h1).2.1 (hT _ h1).2.2 hn hfit hl2 hd (fun H1 locs1 hP1 hD1 hS1 => kk H1 locs1 la ⟨hP1, hD1⟩ hS1 hl)
theorem rc_astq (hc : CX p s m args meth c cc nL own ret D cy ad) {a v ci t0 n i : Nat} {cA : ClassId} {r : vw_C} {vs : List Value} {f : Nat → Option Nat} {iv : Int32} (hd : decode cc pc = .ok (.aastore, 1)) (q0 : Nat) (ha : ws[q0]? = some (a, .inl (cA, n, .inr (.inr (.inr (.inr f)))))) (ht : (tys cy)[t0]? = some (cA, .object r.1)) (hv : (v, .inr (ci, vs)) ∈ ws) (hcl : vwCl[ci]? = some r) (hiv : iv = nI i) (hi : i < n) (hn : n < 2 ^ 31)
    (kk : RM p l e R s m args below meth c nL A (GW D A (ws.set q0 (a, .inl (cA, n, .inr (.inr (.inr (.inr (va_up f i (some v))))))))) nc ns Q (pc + 1) ls st) : RM p l e R s m args below meth c nL A (GW D A ws) nc ns Q pc ls (.ref v :: .int iv :: .ref a :: st) := by
  intro H locs la hPD hS hl
  obtain ⟨hP, hD⟩ := hPD
  obtain ⟨qk, hqk⟩ := List.getElem?_of_mem hv
  have hcl2 : iv.toNatClampNeg = i := by rw [hiv]; exact nI_clamp (by omega)
  have hin : vp_in iv n := fun h => by
    rw [hcl2] at h
    rcases h with h | h
    · rw [hiv] at h
      exact absurd ((nI_ltI (a := i) (b := 0) (by omega) (by omega)).mp h) (by omega)
    · omega
  refine va_astq hc.1.1 hc.1.2.1 hc.2.2.2.1 hP hD hS q0 t0 qk ci ha ht hqk hcl hin hd (fun H1 locs1 hP1 hD1 hS1 => ?_)
  rw [hcl2] at hP1 hD1
  exact kk H1 locs1 la ⟨hP1, hD1⟩ hS1 hl
theorem rc_iast (hc : CX p s m args meth c cc nL own ret D cy ad) {a n i : Nat} {f : Nat → Int32} {iv v : Int32} (hd : decode cc pc = .ok (.iastore, 1)) (q0 : Nat) (ha : ws[q0]? = some (a, .inl (cy 0, n, .inl f))) (hiv : iv = nI i) (hi : i < n) (hn : n < 2 ^ 31)
    (kk : RM p l e R s m args below meth c nL A (GW D A (ws.set q0 (a, .inl (cy 0, n, .inl (upd f i v))))) nc ns Q (pc + 1) ls st) : RM p l e R s m args below meth c nL A (GW D A ws) nc ns Q pc ls (.int v :: .int iv :: .ref a :: st) := by
  intro H locs la hPD hS hl
  obtain ⟨hP, hD⟩ := hPD
  have hcl2 : iv.toNatClampNeg = i := by rw [hiv]; exact nI_clamp (by omega)
  have hin : vp_in iv n := fun h => by
    rw [hcl2] at h
    rcases h with h | h
    · rw [hiv] at h
      exact absurd ((nI_ltI (a := i) (b := 0) (by omega) (by omega)).mp h) (by omega)
    · omega
  refine va_iast hc.1.1 hc.1.2.1 hc.2.2.2.1 hP hD hS q0 0 ha rfl hin hd (fun H1 locs1 hP1 hD1 hS1 => ?_)
  rw [hcl2] at hP1 hD1
  exact kk H1 locs1 la ⟨hP1, hD1⟩ hS1 hl
theorem rc_init (hc : CX p s m args meth c cc nL own ret D cy ad) {y0 : MethodName} {bytes : ByteArray} {maxL n mc ms : Nat} {rm : Room} {index q : Nat} {As rest : List Value} {e0 : va_E} {S : Type} {W1 : S → va_W} (hd : decode cc pc = .ok (.invokespecial index, 3)) (hC : Cn l y0 bytes maxL rm D cy q As e0 mc ms W1) (hL : IL own index y0 bytes maxL n) (hao : AOW s) (hA : ∀ q, s.heap.size ≤ q → A q) (hn : As.length = n) (hst : st = As.reverse ++ .ref q :: rest) (hw : (rest.map fun v => v.category).sum ≤ 8) (hR : (rm.cells = mc ∧ rm.slots = ms) ∧ rm.frames + 1 ≤ R.frames ∧ 8 + (maxL + 11) + rm.locals ≤ R.locals) (hnc : nc + mc ≤ R.cells ∧ ns + ms ≤ R.slots)
    (kk : ∀ z, RM p l e R s m args below meth c nL A (GW D A (ws ++ W1 z)) (nc + mc) (ns + ms) Q (pc + 3) ls rest) : RM p l e R s m args below meth c nL A (GW D A (ws ++ [(q, e0)])) nc ns Q pc ls st := by
  intro H locs la hPD hS hl
  obtain ⟨hP, hD⟩ := hPD
  subst hst
  have hat : (ws ++ [(q, e0)])[ws.length]? = some (q, e0) := by
    rw [List.getElem?_append_right (Nat.le_refl _), Nat.sub_self]
    rfl
  have hPc : va_P D vwCl [(q, e0)] H := fun k z hk => by
    cases k with
    | zero => exact hP ws.length z (by rw [hat]; exact hk)
    | succ k => cases hk
  have hF : ∀ a, va_A [(q, e0)] H.size a → A a := va_free hD hS hA [ws.length] (by show [(ws ++ [(q, e0)])[ws.length]?] = [some (q, e0)]; rw [hat])
  exact va_callv (va_runI (As := As) (rest := rest) hc.1 (hC H.size) (cwI n hc.1.2.2.2.2 (goodTB hL.2.2.2.1) rfl hR.1.1 hR.1.2 (hc.1.2.2.2.2 _ hL.2.2.1) (hc.1.2.2.2.2 _ hL.1) (hc.1.2.2.2.2 _ hL.2.1) hL.2.2.2.2.1 hL.2.2.2.2.2 hR.2) ⟨fun a U g mk q => by obtain ⟨q0, q1, qP, qK, qN, qA⟩ := q; exact ⟨q0, q1, qP, va_K.moved (u := U) (U := U.calling g mk a) (Vm.Alike.refl U.vm) qK, NW.same (u := U) (U := U.calling g mk a) rfl qN, AOW.moved (u := U) (U := U.calling g mk a) (Vm.Alike.refl U.vm) qA⟩, fun U hU hW => ⟨rfl, by rw [hU], by rw [hU]; exact hPc, va_K.moved hW.alike hc.2.2.2.1, hc.2.2.2.2.2.warm hW, hao.moved hW.alike⟩⟩ rfl hn hl.1 rfl (lv_room hw) hd ⟨hnc.1, hnc.2⟩) hS (fun a _ h => hF a h) hF (fun z t H1 locs1 ht hvm _ hB hz1 hk1 hS1 => by
    have hj := jn_end hP hD hk1 hF (by rw [← ht]; exact hB.1) hB.2
    exact kk z H1 locs1 la ⟨hj.1, hj.2⟩ hS1 hl)
theorem rc_initG (hc : CX p s m args meth c cc nL own ret D cy ad) {y0 : MethodName} {bytes : ByteArray} {maxL n mc ms : Nat} {rm : Room} {index q : Nat} {As rest : List Value} {e0 : va_E} {S : Type} {W1 : S → va_W} (hd : decode cc pc = .ok (.invokespecial index, 3)) (hC : Cn l y0 bytes maxL rm D cy q As e0 mc ms W1) (hL : IL own index y0 bytes maxL n) (hao : AOW s) (hA : ∀ q, s.heap.size ≤ q → A q) (hn : As.length = n) (hst : st = As.reverse ++ .ref q :: rest) (hw : (rest.map fun v => v.category).sum ≤ 8) (hR : (rm.cells = mc ∧ rm.slots = ms) ∧ rm.frames + 1 ≤ R.frames ∧ 8 + (maxL + 11) + rm.locals ≤ R.locals) (hnc : nc + mc ≤ R.cells ∧ ns + ms ≤ R.slots)
    (kk : ∀ z w, w = W1 z → RM p l e R s m args below meth c nL A (GW D A (ws ++ w)) (nc + mc) (ns + ms) Q (pc + 3) ls rest) : RM p l e R s m args below meth c nL A (GW D A (ws ++ [(q, e0)])) nc ns Q pc ls st :=
  rc_init hc hd hC hL hao hA hn hst hw hR hnc (fun z => kk z _ rfl)
theorem rc_vret (hc : CX p s m args meth c cc nL own none D cy ad) {S : Type} {W1 : S → va_W} {z : S} {A1 : Nat → Prop} (hd : decode cc pc = .ok (.return_, 1)) (hw : ∀ H, va_P D vwCl ws H → va_P D vwCl (W1 z) H) (hDm : va_D A1 ws → va_D A1 (W1 z)) : RM p l e R s m args below meth c nL A1 (GW D A1 ws) nc ns (MQ below (va_Qv (fun _ : S => True) (fun z t => va_P D vwCl (W1 z) t.heap ∧ va_D A1 (W1 z)) A1) args s nc ns A1) pc ls [] := by
  intro H locs la hPD hS hl
  obtain ⟨hP, hD⟩ := hPD
  have hlk : meth.locks = false := hc.2.2.1
  exact W.vret hc.1.1 hc.1.2.1 hc.2.1 (fun t ht hW => ⟨⟨z, rfl, trivial, by rw [ht]; exact hw _ hP, hDm hD⟩, hS.F ht⟩) hS.2.2 hd
end ROWSC
def adD : Ads := fun k c j => 1000 * k + 10 * c + j
theorem ijD : IJ adD := fun i hi j hj h => by
  have a := dm_lt (mem_dm (k := i.1) (c := i.2.1) (j := i.2.2) hi)
  have b := dm_lt (mem_dm (k := j.1) (c := j.2.1) (j := j.2.2) hj)
  obtain ⟨i1, i2, i3⟩ := i
  obtain ⟨j1, j2, j3⟩ := j
  have h' : 1000 * i1 + 10 * i2 + i3 = 1000 * j1 + 10 * j2 + j3 := h
  dsimp only at a b
  have e1 : i1 = j1 := by omega
  have e2 : i2 = j2 := by omega
  have e3 : i3 = j3 := by omega
  rw [e1, e2, e3]
theorem rc_ws {p : Program} {l : Launch} {e : Env} {R : Room} {s : State} {m : MethodId} {args : Array Value} {below : List Frame} {meth : Method} {c : Code} {nL : Nat} {D : va_G} {A : Nat → Prop} {nc ns : Nat} {Q : State → Prop} {pc : Nat} {ls : List (Nat × Value)} {st : List Value} {ws ws' : va_W} (h : ws = ws') (kk : RM p l e R s m args below meth c nL A (GW D A ws') nc ns Q pc ls st) : RM p l e R s m args below meth c nL A (GW D A ws) nc ns Q pc ls st := by
  subst h
  exact kk
theorem rc_wn {p : Program} {l : Launch} {e : Env} {R : Room} {s : State} {m : MethodId} {args : Array Value} {below : List Frame} {meth : Method} {c : Code} {nL : Nat} {D : va_G} {A : Nat → Prop} {nc ns nc' ns' : Nat} {Q : State → Prop} {pc : Nat} {ls : List (Nat × Value)} {st : List Value} {ws ws' : va_W} (h : ws = ws') (h1 : nc = nc') (h2 : ns = ns') (kk : RM p l e R s m args below meth c nL A (GW D A ws') nc' ns' Q pc ls st) : RM p l e R s m args below meth c nL A (GW D A ws) nc ns Q pc ls st := by
  subst h h1 h2
  exact kk
theorem rc_entry {l : Launch} {y : MethodName} {cc : ByteArray} {nL : Nat} {rm : Room} {D : va_G} {cy : Nat → ClassId} {h0 : Nat} {As : List Value} {e0 : va_E} {mc ms : Nat} {S : Type} {W1 : S → va_W} (hy : plainName y.cls = true) (hin : y.name = "<init>") (hl : (lg_sl (.ref h0 :: As)).length ≤ nL)
    (body : ∀ p e s m args below meth c, CX p s m args meth c cc nL y.cls none D cy adD → meth.name = "<init>" → AOW s → (∀ q, s.heap.size ≤ q → va_A [(h0, e0)] s.heap.size q) → RM p l e rm s m args below meth c nL (va_A [(h0, e0)] s.heap.size) (GW D (va_A [(h0, e0)] s.heap.size) [(h0, e0)]) 0 0 (MQ below (va_Qv (fun _ : S => True) (fun z t => va_P D vwCl (W1 z) t.heap ∧ va_D (va_A [(h0, e0)] s.heap.size) (W1 z)) (va_A [(h0, e0)] s.heap.size)) args s mc ms (va_A [(h0, e0)] s.heap.size)) 0 (lv_args 0 (.ref h0 :: As)) []) : Cn l y cc nL rm D cy h0 As e0 mc ms W1 := by
  intro sz
  refine Met.ofW (cc := cc) (maxL := nL) (ret := none) hy rfl ?_
  intro p e s m args below meth c s₁ B hml hv
  obtain ⟨rfl, hsz, hP, hK, hN, hAO⟩ := hv
  subst hsz
  have hts := atoms_spec (ws := .code y cc nL none :: TB) B.pre
  have hc : CX p s m (Value.ref h0 :: As).toArray meth c cc nL y.cls none D cy adD := ⟨⟨B.exec, B.bytes, hml, findClass_of_methodNamed B.named, fun w h => hts w (List.mem_cons_of_mem _ h)⟩, B.returns, B.notSynchronized, hK, ijD, hN⟩
  have hnm : meth.name = "<init>" := by rw [← hin]; exact (name_of_methodNamed B.named B.method).1
  have hD : va_D (va_A [(h0, e0)] s.heap.size) [(h0, e0)] := by
    refine ⟨fun i j p0 q0 hp hq _ => ?_, fun k q hk => Or.inl ⟨k, q.2, hk⟩⟩
    have h1 := (List.getElem?_eq_some_iff.mp hp).1
    have h2 := (List.getElem?_eq_some_iff.mp hq).1
    have h3 : i < 1 := h1
    have h4 : j < 1 := h2
    omega
  have h := body p e s m (Value.ref h0 :: As).toArray below meth c hc hnm hAO (fun q h => Or.inr h)
  rw [lg_entry_eq]
  exact h s.heap [] _ ⟨hP, hD⟩ va_S.rf (lv_entry (.ref h0 :: As) hl)
