/-! ===== the law's own methods: contracts beside the script ===== -/
def MSW (own : String) (index : Nat) (y : MethodName) (bytes : ByteArray) (maxL : Nat) (hh : List (Nat × Nat × Nat × Nat)) (n : Nat) : Prop := Cond.methodLink own index y ∈ TB ∧ Cond.initialized y.cls ∈ TB ∧ Cond.codeWith y bytes maxL (some .int) hh ∈ TB ∧ (y.cls ≠ "java/lang/invoke/MethodHandle" ∧ y.cls ≠ "java/lang/invoke/VarHandle" ∧ (parseMethodDescriptor y.desc).map (fun d => d.parameters.length) = some n) ∧ Cond.static y ∈ TB
/-- what stands beside CX in the law -/
def LX (ad : Ads) (s : State) : Prop := XW s ∧ NC s ∧ SF ad s.heap.size s
section LAWR
variable {p : Program} {l : Launch} {e : Env} {R : Room} {s : State} {m : MethodId} {args : Array Value} {below : List Frame} {meth : Method} {c : Code} {cc : ByteArray} {nL : Nat} {own : String} {ret : Option FieldType} {D : va_G} {cy : Nat → ClassId} {ad : Ads} {A : Nat → Prop} {G : Heap → Prop} {nc ns : Nat} {Q : State → Prop} {x : Mem} {pc : Nat} {ls : List (Nat × Value)} {st : List Value}
theorem rm_callW (hc : CX p s m args meth c cc nL own ret D cy ad) (hX : LX ad s) {y0 : MethodName} {bytes : ByteArray} {maxL n : Nat} {hh : List (Nat × Nat × Nat × Nat)} {rm : Room} {index : Nat} {As rest : List Value} {post : Int32 → Mem → Prop} (hd : decode cc pc = .ok (.invokestatic index, 3)) (hC : Ctw l y0 bytes maxL hh rm D cy ad As x post) (hL : MSW own index y0 bytes maxL hh n) (hn : As.length = n) (hst : st = As.reverse ++ rest) (hw : (rest.map fun v => v.category).sum ≤ 8) (hR : (rm.cells = 1 ∧ rm.slots = 6) ∧ rm.frames + 1 ≤ R.frames ∧ 8 + (maxL + 11) + rm.locals ≤ R.locals) (hnc : nc + 1 ≤ R.cells ∧ ns + 6 ≤ R.slots)
    (kk : ∀ (r : Int32) (y : Mem), post r y → RM p l e R s m args below meth c nL (AA ad s.heap.size) (GG D cy ad y) (nc + 1) (ns + 6) Q (pc + 3) ls (.int r :: rest)) : RM p l e R s m args below meth c nL (AA ad s.heap.size) (GG D cy ad x) nc ns Q pc ls st := by
  intro H locs la hP hS hl
  subst hst
  have hF : ∀ q, AA ad H.size q → AA ad s.heap.size q := AA_mono hS.1
  have cw : vx_CSW R s args own index y0 bytes maxL (some .int) hh (.codeWith y0 bytes maxL (some .int) hh :: TB) rm 1 6 n := ⟨⟨hR.1.1, hR.1.2, hR.2.1, hR.2.2, pay_in hc.1.2.2.2.2 (goodTB hL.2.2.1), List.mem_cons_self⟩, hc.1.2.2.2.2 _ hL.2.2.1, hc.1.2.2.2.2 _ hL.2.1, ⟨hL.2.2.2.1.1, hL.2.2.2.1.2.1⟩, fun sig h => by
    have h2 := hL.2.2.2.1.2.2
    rw [h] at h2
    exact (Option.some.inj h2).symm, hc.1.2.2.2.2 _ hL.1, hc.1.2.2.2.2 _ hL.2.2.2.2⟩
  exact va_calli (vx_runSW (As := As) (rest := rest) hc.1 (hC H.size) cw ⟨fun a U g mk q => by obtain ⟨q0, q1, qP, qK, qN, qX, qC, qF⟩ := q; exact ⟨q0, q1, qP, va_K.moved (u := U) (U := U.calling g mk a) (Vm.Alike.refl U.vm) qK, NW.same (u := U) (U := U.calling g mk a) rfl qN, XW.moved (u := U) (U := U.calling g mk a) (Vm.Alike.refl U.vm) qX, NC.moved (u := U) (U := U.calling g mk a) (Vm.Alike.refl U.vm) qC, ⟨vx_Zq.moved (u := U) (U := U.calling g mk a) (Vm.Alike.refl U.vm) qF.1, vx_Zq.moved (u := U) (U := U.calling g mk a) (Vm.Alike.refl U.vm) qF.2⟩⟩, fun U hU hW => ⟨rfl, by rw [hU], by rw [hU]; exact hP, va_K.moved hW.alike hc.2.2.2.1, hc.2.2.2.2.2.warm hW, hX.1.moved hW.alike, hX.2.1.moved hW.alike, hX.2.2.at hW.alike hU hS⟩⟩ rfl hn hl.1 rfl (lv_room hw) hd ⟨hnc.1, hnc.2⟩) hS (fun q _ h => hF q h) hF (fun r u t H1 locs1 ht hvm hw hB hz1 hk1 hS1 => kk r u hw H1 locs1 la (by rw [← ht]; exact hB) hS1 hl)
theorem rm_sld (hc : CX p s m args meth c cc nL own ret D cy ad) {b L : Nat} {xs : Nat → Int32} (hX : va_X b L xs s s.heap) (hbl : b < s.heap.size) (hbA : ¬ A b) (hd : decode cc pc = .ok (.iaload, 1)) {iv : Int32} {i : Nat} (hi : i < L) (hL : L < 2 ^ 31) (hiv : iv = nI i) (kk : RM p l e R s m args below meth c nL A G nc ns Q (pc + 1) ls (.int (xs i) :: st)) : RM p l e R s m args below meth c nL A G nc ns Q pc ls (.int iv :: .ref b :: st) := by
  intro H locs la hP hS hl
  subst hiv
  refine va_sld hc.1.1 hc.1.2.1 hX hbl hbA hS (vp_in_nI hi hL) hd ?_
  rw [nI_clamp (by omega)]
  exact kk H locs la hP hS hl
theorem rm_slen (hc : CX p s m args meth c cc nL own ret D cy ad) {b L : Nat} {xs : Nat → Int32} (hX : va_X b L xs s s.heap) (hbl : b < s.heap.size) (hbA : ¬ A b) (hd : decode cc pc = .ok (.arraylength, 1)) (kk : RM p l e R s m args below meth c nL A G nc ns Q (pc + 1) ls (.int (nI L) :: st)) : RM p l e R s m args below meth c nL A G nc ns Q pc ls (.ref b :: st) :=
  fun H locs la hP hS hl => va_slen hc.1.1 hc.1.2.1 hX hbl hbA hS hd (kk H locs la hP hS hl)
theorem rm_wid {nc' ns' : Nat} (h1 : nc ≤ nc') (h2 : ns ≤ ns') (kk : RM p l e R s m args below meth c nL A G nc' ns' Q pc ls st) : RM p l e R s m args below meth c nL A G nc ns Q pc ls st :=
  fun H locs la hP hS hl => W.widen h1 h2 (kk H locs la hP hS hl)
/-- the script, too -/
def XS (ad : Ads) (b L : Nat) (xs : Nat → Int32) (s : State) : Prop := LX ad s ∧ va_X b L xs s s.heap ∧ b < s.heap.size ∧ ¬ AA ad s.heap.size b
def Cts (l : Launch) (y : MethodName) (cc : ByteArray) (nL : Nat) (ret : Option FieldType) (rm : Room) (D : va_G) (cy : Nat → ClassId) (ad : Ads) (b L : Nat) (xs : Nat → Int32) (mc ms : Nat) (As : List Value) (x : Mem) (post : Int32 → Mem → Prop) : Prop :=
  ∀ sz, Met l y (.code y cc nL ret :: TB) rm (va_Pc As (fun U => U.heap.size = sz ∧ va_P D vwCl (wl cy ad x) U.heap ∧ va_K D vwCl (tys cy) U ∧ NW U ∧ XW U ∧ NC U ∧ SF ad sz U ∧ va_X b L xs U U.heap ∧ b < sz ∧ ¬ AA ad sz b)) (va_Qi post (fun z t => va_P D vwCl (wl cy ad z) t.heap) (AA ad sz)) mc ms (AA ad sz)
def QS (D : va_G) (cy : Nat → ClassId) (ad : Ads) (mc ms : Nat) (post : Int32 → Mem → Prop) (below : List Frame) (args : Array Value) (s : State) : State → Prop :=
  MQ below (va_Qi post (fun z t => va_P D vwCl (wl cy ad z) t.heap) (AA ad s.heap.size)) args s mc ms (AA ad s.heap.size)
theorem rm_entryS {y : MethodName} {rm : Room} {As : List Value} {post : Int32 → Mem → Prop} {b L mc ms : Nat} {xs : Nat → Int32} (hI : IJ ad) (hy : plainName y.cls = true) (hl : (lg_sl As).length ≤ nL)
    (body : ∀ p e s m args below meth c, CX p s m args meth c cc nL y.cls (some .int) D cy ad → XS ad b L xs s → RM p l e rm s m args below meth c nL (AA ad s.heap.size) (GG D cy ad x) 0 0 (QS D cy ad mc ms post below args s) 0 (lv_args 0 As) []) : Cts l y cc nL (some .int) rm D cy ad b L xs mc ms As x post := by
  intro sz
  refine Met.ofW (cc := cc) (maxL := nL) (ret := some .int) hy rfl ?_
  intro p e s m args below meth c s₁ B hml hv
  obtain ⟨rfl, hsz, hP, hK, hN, hX, hNc, hF, hS, hb, hA⟩ := hv
  subst hsz
  have hts := atoms_spec (ws := .code y cc nL (some .int) :: TB) B.pre
  have hc : CX p s m As.toArray meth c cc nL y.cls (some .int) D cy ad := ⟨⟨B.exec, B.bytes, hml, findClass_of_methodNamed B.named, fun w h => hts w (List.mem_cons_of_mem _ h)⟩, B.returns, B.notSynchronized, hK, hI, hN⟩
  have h := body p e s m As.toArray below meth c hc ⟨⟨hX, hNc, hF⟩, hS, hb, hA⟩
  rw [lg_entry_eq]
  exact h s.heap [] _ hP va_S.rf (lv_entry As hl)
theorem rm_iretS {mc ms : Nat} (hc : CX p s m args meth c cc nL own (some .int) D cy ad) {v : Int32} {post : Int32 → Mem → Prop} (hd : decode cc pc = .ok (.ireturn, 1)) (h1 : nc ≤ mc) (h6 : ns ≤ ms) (hp : post v x) : RM p l e R s m args below meth c nL (AA ad s.heap.size) (GG D cy ad x) nc ns (QS D cy ad mc ms post below args s) pc ls [.int v] := by
  intro H locs la hP hS hl
  have hlk : meth.locks = false := hc.2.2.1
  refine W.widen (k := mc) (n := ms) h1 h6 ?_
  exact W.iret hc.1.1 hc.1.2.1 hc.2.1 (fun t ht hW => ⟨⟨v, x, rfl, hp, by show va_P D vwCl (wl cy ad x) t.heap; rw [ht]; exact hP⟩, hS.F ht⟩) hS.2.2 hd
/-- a static method that may read the script is called -/
theorem rm_callS {mc ms b L : Nat} {xs : Nat → Int32} (hc : CX p s m args meth c cc nL own ret D cy ad) (hX : XS ad b L xs s) {y0 : MethodName} {bytes : ByteArray} {maxL n : Nat} {rt : Option FieldType} {rm : Room} {index : Nat} {As rest : List Value} {post : Int32 → Mem → Prop} (hd : decode cc pc = .ok (.invokestatic index, 3)) (hC : Cts l y0 bytes maxL rt rm D cy ad b L xs mc ms As x post) (hL : MS own index y0 bytes maxL rt n) (hn : As.length = n) (hst : st = As.reverse ++ rest) (hw : (rest.map fun v => v.category).sum ≤ 8) (hR : (rm.cells = mc ∧ rm.slots = ms) ∧ rm.frames + 1 ≤ R.frames ∧ 8 + (maxL + 11) + rm.locals ≤ R.locals) (hnc : nc + mc ≤ R.cells ∧ ns + ms ≤ R.slots)
    (kk : ∀ (r : Int32) (y : Mem), post r y → RM p l e R s m args below meth c nL (AA ad s.heap.size) (GG D cy ad y) (nc + mc) (ns + ms) Q (pc + 3) ls (.int r :: rest)) : RM p l e R s m args below meth c nL (AA ad s.heap.size) (GG D cy ad x) nc ns Q pc ls st := by
  intro H locs la hP hS hl
  subst hst
  have hF : ∀ q, AA ad H.size q → AA ad s.heap.size q := AA_mono hS.1
  have hHb : H[b]? = s.heap[b]? := hS.2.1 b hX.2.2.1 hX.2.2.2
  exact va_calli (va_runS (As := As) (rest := rest) hc.1 (hC H.size) ⟨callB_of n hc.1.2.2.2.2 (goodTB hL.1.2.2.1) rfl hR.1.1 hR.1.2 (hc.1.2.2.2.2 _ hL.1.2.1) (hc.1.2.2.2.2 _ hL.1.1) hL.1.2.2.2 hR.2, hc.1.2.2.2.2 _ hL.2⟩ ⟨fun a U g mk q => by obtain ⟨q0, q1, qP, qK, qN, qX, qC, qF, qS, qb, qA⟩ := q; exact ⟨q0, q1, qP, va_K.moved (u := U) (U := U.calling g mk a) (Vm.Alike.refl U.vm) qK, NW.same (u := U) (U := U.calling g mk a) rfl qN, XW.moved (u := U) (U := U.calling g mk a) (Vm.Alike.refl U.vm) qX, NC.moved (u := U) (U := U.calling g mk a) (Vm.Alike.refl U.vm) qC, ⟨vx_Zq.moved (u := U) (U := U.calling g mk a) (Vm.Alike.refl U.vm) qF.1, vx_Zq.moved (u := U) (U := U.calling g mk a) (Vm.Alike.refl U.vm) qF.2⟩, va_X.moved (u := U) (U := U.calling g mk a) (Vm.Alike.refl U.vm) qS, qb, qA⟩, fun U hU hW => ⟨rfl, by rw [hU], by rw [hU]; exact hP, va_K.moved hW.alike hc.2.2.2.1, hc.2.2.2.2.2.warm hW, hX.1.1.moved hW.alike, hX.1.2.1.moved hW.alike, hX.1.2.2.at hW.alike hU hS, by rw [hU]; exact (hX.2.1.kept hHb).moved hW.alike, Nat.lt_of_lt_of_le hX.2.2.1 hS.1, fun q => hX.2.2.2 (hF b q)⟩⟩ rfl hn hl.1 rfl (lv_room hw) hd ⟨hnc.1, hnc.2⟩) hS (fun q _ h => hF q h) hF (fun r u t H1 locs1 ht hvm hw hB hz1 hk1 hS1 => kk r u hw H1 locs1 la (by rw [← ht]; exact hB) hS1 hl)
end LAWR
