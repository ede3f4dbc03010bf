/-! ===== the law's wrappers: what they catch ===== -/
def ncL : List (String × String) := []
def NC (U : State) : Prop := ∀ q ∈ ncL, va_Nc q.1 q.2 U
theorem NC.moved {u U : State} (hvm : u.vm.Alike U.vm) (h : NC u) : NC U := fun q hq => (h q hq).moved hvm
def Ctw (l : Launch) (y : MethodName) (cc : ByteArray) (nL : Nat) (hh : List (Nat × Nat × Nat × Nat)) (rm : Room) (D : va_G) (cy : Nat → ClassId) (ad : Ads) (As : List Value) (x : Mem) (post : Int32 → Mem → Prop) : Prop :=
  ∀ sz, Met l y (.codeWith y cc nL (some .int) hh :: TB) rm (va_Pc As (fun U => U.heap.size = sz ∧ va_P D vwCl (wl cy ad x) U.heap ∧ va_K D vwCl (tys cy) U ∧ NW U ∧ XW U ∧ NC U ∧ SF ad sz U)) (va_Qi post (fun z t => va_P D vwCl (wl cy ad z) t.heap) (AA ad sz)) 1 6 (AA ad sz)
def QW (D : va_G) (cy : Nat → ClassId) (ad : Ads) (post : Int32 → Mem → Prop) (below : List Frame) (args : Array Value) (s : State) : State → Prop :=
  MQ below (va_Qi post (fun z t => va_P D vwCl (wl cy ad z) t.heap) (AA ad s.heap.size)) args s 1 6 (AA ad s.heap.size)
def XY (c : Code) (hh : List (Nat × Nat × Nat × Nat)) (ad : Ads) (s : State) : Prop := c.exceptionTable.toList = tableOf hh ∧ XW s ∧ NC s ∧ SF ad s.heap.size s
theorem rm_entryW {l : Launch} {y : MethodName} {cc : ByteArray} {nL : Nat} {hh : List (Nat × Nat × Nat × Nat)} {rm : Room} {D : va_G} {cy : Nat → ClassId} {ad : Ads} {As : List Value} {x : Mem} {post : Int32 → Mem → Prop} (hI : IJ ad) (hy : plainName y.cls = true) (hl : (lg_sl As).length ≤ nL)
    (body : ∀ p e s m args below meth c, CX p s m args meth c cc nL y.cls (some .int) D cy ad → XY c hh ad s → RM p l e rm s m args below meth c nL (AA ad s.heap.size) (GG D cy ad x) 0 0 (QW D cy ad post below args s) 0 (lv_args 0 As) []) : Ctw l y cc nL hh rm D cy ad As x post := by
  intro sz
  refine va_MetW (cc := cc) (maxL := nL) (ret := some .int) (hh := hh) hy rfl ?_
  intro p e s m args below meth c s₁ B hml hv
  obtain ⟨rfl, hsz, hP, hK, hN, hX, hNc, hF⟩ := hv
  subst hsz
  have hts := atoms_spec (ws := .codeWith y cc nL (some .int) hh :: TB) B.pre
  have hc : CX p s m As.toArray meth c cc nL y.cls (some .int) D cy ad := ⟨⟨B.exec, B.bytes, hml, findClass_of_methodNamed B.named, fun w h => hts w (List.mem_cons_of_mem _ h)⟩, B.returns, B.notSynchronized, hK, hI, hN⟩
  have h := body p e s m As.toArray below meth c hc ⟨vx_table (x := y) B (hts _ List.mem_cons_self), hX, hNc, hF⟩
  rw [lg_entry_eq]
  exact h s.heap [] _ hP va_S.rf (lv_entry As hl)
theorem rm_iretW {p : Program} {l : Launch} {e : Env} {R : Room} {s : State} {m : MethodId} {args : Array Value} {below : List Frame} {meth : Method} {c : Code} {cc : ByteArray} {nL : Nat} {own : String} {D : va_G} {cy : Nat → ClassId} {ad : Ads} {x : Mem} {pc nc ns : Nat} {ls : List (Nat × Value)} (hc : CX p s m args meth c cc nL own (some .int) D cy ad) {v : Int32} {post : Int32 → Mem → Prop} (hd : decode cc pc = .ok (.ireturn, 1)) (h1 : nc ≤ 1) (h6 : ns ≤ 6) (hp : post v x) : RM p l e R s m args below meth c nL (AA ad s.heap.size) (GG D cy ad x) nc ns (QW D cy ad post below args s) pc ls [.int v] := by
  intro H locs la hP hS hl
  have hlk : meth.locks = false := hc.2.2.1
  refine W.widen (k := 1) (n := 6) h1 h6 ?_
  exact W.iret hc.1.1 hc.1.2.1 hc.2.1 (fun t ht hW => ⟨⟨v, x, rfl, hp, by show va_P D vwCl (wl cy ad x) t.heap; rw [ht]; exact hP⟩, hS.F ht⟩) hS.2.2 hd
/-- what is thrown is caught here -/
theorem rm_catV {p : Program} {l : Launch} {e : Env} {R : Room} {s : State} {m : MethodId} {args : Array Value} {below : List Frame} {meth : Method} {c : Code} {cc : ByteArray} {nL : Nat} {own : String} {ret : Option FieldType} {D : va_G} {cy : Nat → ClassId} {ad : Ads} {Q : State → Prop} {x : Mem} {pc : Nat} {ls : List (Nat × Value)} {st : List Value} {E : String} {hh : List (Nat × Nat × Nat × Nat)}
    (hc : CX p s m args meth c cc nL own ret D cy ad) (hX : XY c hh ad s) {y0 : MethodName} {bytes : ByteArray} {maxL n : Nat} {rt : Option FieldType} {rm : Room} {index : Nat} {As rest : List Value} {k c0 j ci N : Nat} {T : u_T} {fs : List Value} (pre : List ExceptionTableEntry) (xe : ExceptionTableEntry) (suf : List ExceptionTableEntry) (hd : decode cc pc = .ok (.invokevirtual index, 3)) (hC : Ctx l y0 bytes maxL rt rm D cy ad (.ref (ad k c0 j) :: As) x E) (hL : MV own index y0 bytes maxL rt n) (hm : dm k c0 j) (hE : EE cy ad x k c0 j = .inr (ci, fs)) (hcl : vwCl[ci]? = some (y0.cls, T, N)) (hn : As.length = n) (hst : st = As.reverse ++ .ref (ad k c0 j) :: rest) (hw : (rest.map fun v => v.category).sum ≤ 8) (hR : (rm.cells = 1 ∧ rm.slots = 6) ∧ rm.frames + 1 ≤ R.frames ∧ 8 + (maxL + 11) + rm.locals ≤ R.locals) (hnc : 1 ≤ R.cells ∧ 6 ≤ R.slots)
    (hsplit : tableOf hh = pre ++ xe :: suf) (hpass : ∀ z ∈ pre, z.catchType ≠ 0 ∧ ∃ nm : String, Cond.classLink own z.catchType nm ∈ TB ∧ (E, nm) ∈ ncL) (hx : covers xe pc = true) (h0 : xe.catchType ≠ 0) (hlink : Cond.classLink own xe.catchType E ∈ TB) (hcast : Cond.castable E E ∈ badL)
    (kk : ∀ q, RM p l e R s m args below meth c nL (AA ad s.heap.size) (GG D cy ad x) 1 6 Q xe.handlerPc ls [.ref q]) : RM p l e R s m args below meth c nL (AA ad s.heap.size) (GG D cy ad x) 0 0 Q pc ls st := by
  intro H locs la hP hS hl
  subst hst
  have hF : ∀ q, AA ad H.size q → AA ad s.heap.size q := AA_mono hS.1
  obtain ⟨q0, hq, -⟩ := wl_get (cy := cy) (ad := ad) x hm
  rw [hE] at hq
  have cw : CallW R s args own y0.cls index y0 bytes maxL rt (.code y0 bytes maxL rt :: TB) rm 1 6 n := ⟨callB_of n hc.1.2.2.2.2 (goodTB hL.1.2.2.1) rfl hR.1.1 hR.1.2 (hc.1.2.2.2.2 _ hL.1.2.1) (hc.1.2.2.2.2 _ hL.1.1) hL.1.2.2.2 hR.2, hc.1.2.2.2.2 _ hL.2.1, hc.1.2.2.2.2 _ hL.2.2⟩
  refine vx_callv (vx_runV (As := As) (rest := rest) hc.1 (hC H.size) cw ⟨fun a U g mk q => by obtain ⟨q0, q1, qP, qK, qN, qX, qF⟩ := q; exact ⟨q0, q1, qP, va_K.moved (u := U) (U := U.calling g mk a) (Vm.Alike.refl U.vm) qK, NW.same (u := U) (U := U.calling g mk a) rfl qN, XW.moved (u := U) (U := U.calling g mk a) (Vm.Alike.refl U.vm) qX, ⟨vx_Zq.moved (u := U) (U := U.calling g mk a) (Vm.Alike.refl U.vm) qF.1, vx_Zq.moved (u := U) (U := U.calling g mk a) (Vm.Alike.refl U.vm) qF.2⟩⟩, va_recv hc.2.2.2.1 hP hcl hq, fun U hU hW => ⟨rfl, by rw [hU], by rw [hU]; exact hP, va_K.moved hW.alike hc.2.2.2.1, hc.2.2.2.2.2.warm hW, hX.2.1.moved hW.alike, hX.2.2.2.at hW.alike hU hS⟩⟩ rfl hn hl.1 rfl (lv_room hw) hd ⟨by omega, by omega⟩) hS (fun q _ h => hF q h) hF (fun q _ h => hF q h) ?_ (fun u t H1 locs1 ht hvm hf => hf.elim)
  intro E' ce q9 u t H1 locs1 ht hvm hu hB hz hk hS1 hcell hv hcl
  obtain ⟨rfl, hB⟩ := hB
  refine vx_catch hc.1.2.2.2.1 pre xe suf (hX.1.trans hsplit) (fun z hz => ?_) hx h0 (hc.1.2.2.2.2 _ hlink) (hX.2.1 _ hcast _) hcell hv hcl ?_
  · obtain ⟨h1, nm, h2, h3⟩ := hpass z hz
    exact Or.inr ⟨h1, nm, hc.1.2.2.2.2 _ h2, hX.2.2.1 _ h3⟩
  · exact kk q9 H1 locs1 la (by rw [← ht]; exact hB) hS1 hl
