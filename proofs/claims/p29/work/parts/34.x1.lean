/-! ===== methods that throw ===== -/
def xnI : List String := ["java/lang/RuntimeException", "java/lang/Exception"]
def badL : List Cond := [.declares (Bundle.init0 "java/lang/RuntimeException"), .declares (Bundle.init0 "java/lang/Exception"), .declares (Bundle.init0 Bundle.tN), .castable "java/lang/IndexOutOfBoundsException" "java/lang/IndexOutOfBoundsException", .castable "java/lang/IllegalArgumentException" "java/lang/IllegalArgumentException", .castable "java/lang/IllegalStateException" "java/lang/IllegalStateException"]
theorem bad_f : ∀ w ∈ badL, w.faceAtom = true ∧ w.onTables = true := by decide +kernel
theorem bad_t : ∀ w ∈ badL, w ∈ lw_tbl := by decide +kernel
/-- what a throw needs to know of the machine -/
def XW (U : State) : Prop := ∀ w ∈ badL, ∀ a : Array Value, w.before a U = true
theorem XW.moved {u U : State} (hvm : u.vm.Alike U.vm) (h : XW u) : XW U := fun w hw a => va_tabs (u := u.setVm U.vm) (U := U) (A := #[]) (A' := a) (bad_f w hw).2 rfl (Cond.faceAtom_setVm (args := #[]) hvm w (bad_f w hw).1 (h w hw #[]))
def SF (ad : Ads) (sz : Nat) (U : State) : Prop := vx_Zq Bundle.tN "UNASSIGNED_STACK" Bundle.steD (AA ad sz) U U.heap ∧ vx_Zq Bundle.tN "SUPPRESSED_SENTINEL" Bundle.listD (AA ad sz) U U.heap
theorem AA_mono {ad : Ads} {a b : Nat} (h : a ≤ b) : ∀ q, AA ad b q → AA ad a q := fun q hq => hq.elim Or.inl (fun z => Or.inr (Nat.le_trans h z))
/-- the same, some steps later -/
theorem SF.at {ad : Ads} {s U : State} {H : Heap} {locs : List Loc} (h : SF ad s.heap.size s) (hvm : s.vm.Alike U.vm) (hU : U.heap = H) (hS : va_S (AA ad s.heap.size) s.heap H locs) : SF ad H.size U := by
  subst hU
  exact ⟨((h.1.kept hS.2.1).moved hvm).narrow (AA_mono hS.1), ((h.2.kept hS.2.1).moved hvm).narrow (AA_mono hS.1)⟩
/-- a contract: this exception, and no other, leaves the method; nothing else changes -/
def Ctx (l : Launch) (y : MethodName) (cc : ByteArray) (nL : Nat) (ret : Option FieldType) (rm : Room) (D : va_G) (cy : Nat → ClassId) (ad : Ads) (As : List Value) (x : Mem) (E : String) : Prop :=
  ∀ sz, vx_Met l y (.code y cc nL ret :: TB) rm (va_Pc As (fun U => U.heap.size = sz ∧ va_P D vwCl (wl cy ad x) U.heap ∧ va_K D vwCl (tys cy) U ∧ NW U ∧ XW U ∧ SF ad sz U)) (va_Qv (fun (_ : Mem) => False) (fun z t => va_P D vwCl (wl cy ad z) t.heap) (AA ad sz)) (vx_X (fun (_ : Unit) => True) (fun E' _ t => E' = E ∧ va_P D vwCl (wl cy ad x) t.heap) (AA ad sz)) 1 6 (AA ad sz)
/-- what a walk that throws ends in -/
def QX (D : va_G) (cy : Nat → ClassId) (ad : Ads) (x : Mem) (E : String) (below : List Frame) (args : Array Value) (s : State) : State → Prop :=
  vx_MQ below (va_Qv (fun (_ : Mem) => False) (fun z t => va_P D vwCl (wl cy ad z) t.heap) (AA ad s.heap.size)) (vx_X (fun (_ : Unit) => True) (fun E' _ t => E' = E ∧ va_P D vwCl (wl cy ad x) t.heap) (AA ad s.heap.size)) args s 1 6 (AA ad s.heap.size)
/-- what stands beside CX in a method that throws -/
def XX (c : Code) (ad : Ads) (s : State) : Prop := (∀ x ∈ c.exceptionTable.toList, False) ∧ XW s ∧ SF ad s.heap.size s
theorem rm_entryX {l : Launch} {y : MethodName} {cc : ByteArray} {nL : Nat} {ret : Option FieldType} {rm : Room} {D : va_G} {cy : Nat → ClassId} {ad : Ads} {As : List Value} {x : Mem} {E : String} (hI : IJ ad) (hy : plainName y.cls = true) (hl : (lg_sl As).length ≤ nL)
    (body : ∀ p e s m args below meth c, CX p s m args meth c cc nL y.cls ret D cy ad → XX c ad s → RM p l e rm s m args below meth c nL (AA ad s.heap.size) (GG D cy ad x) 0 0 (QX D cy ad x E below args s) 0 (lv_args 0 As) []) : Ctx l y cc nL ret rm D cy ad As x E := by
  intro sz
  refine vx_ofW (cc := cc) (maxL := nL) (ret := ret) hy rfl ?_
  intro p e s m args below meth c s₁ B hml ht hv
  obtain ⟨rfl, hsz, hP, hK, hN, hX, hF⟩ := hv
  subst hsz
  have hts := atoms_spec (ws := .code y cc nL ret :: TB) B.pre
  have hc : CX p s m As.toArray meth c cc nL y.cls ret D cy ad := ⟨⟨B.exec, B.bytes, hml, findClass_of_methodNamed B.named, fun w h => hts w (List.mem_cons_of_mem _ h)⟩, B.returns, B.notSynchronized, hK, hI, hN⟩
  have h := body p e s m As.toArray below meth c hc ⟨ht, hX, hF⟩
  rw [lg_entry_eq]
  exact h s.heap [] _ hP va_S.rf (lv_entry As hl)
theorem GG_kept {D : va_G} {cy : Nat → ClassId} {ad : Ads} {x : Mem} {H H1 : Heap} (h : GG D cy ad x H) (hq : ∀ q : Nat, q < H.size → H1[q]? = H[q]?) : GG D cy ad x H1 := va_P.kept h (fun k q hk => hq _ (h k q hk).lt)
theorem rm_throw0 {p : Program} {l : Launch} {e : Env} {R : Room} {s : State} {m : MethodId} {args : Array Value} {below : List Frame} {meth : Method} {c : Code} {cc : ByteArray} {nL : Nat} {own : String} {ret : Option FieldType} {D : va_G} {cy : Nat → ClassId} {ad : Ads} {x : Mem} {pc : Nat} {ls : List (Nat × Value)} {st : List Value} {cls : String} {ik ic : Nat}
    (hc : CX p s m args meth c cc nL own ret D cy ad) (hX : XX c ad s) (hl : l.stackTraces = false) (hcls : Bundle.fit cls = true) (hk : Cond.classLink own ik cls ∈ TB ∧ Cond.initialized cls ∈ TB) (hat : ∀ w ∈ vx_at0 own ic cls xnI, w ∈ TB ∨ w ∈ badL) (hgood : ∀ w ∈ Cond.classLink own ik cls :: Cond.initialized cls :: vx_at0 own ic cls xnI, vx_ot w = true)
    (d0 : decode cc pc = .ok (.new ik, 3)) (d3 : decode cc (pc + 3) = .ok (.dup, 1)) (d4 : decode cc (pc + 4) = .ok (.invokespecial ic, 3)) (d7 : decode cc (pc + 7) = .ok (.athrow, 1))
    (h1 : 5 < R.frames) (h2 : (st.map fun v => v.category).sum + 81 ≤ R.locals) (h3 : 1 ≤ R.cells) (h4 : 6 ≤ R.slots) :
    RM p l e R s m args below meth c nL (AA ad s.heap.size) (GG D cy ad x) 0 0 (QX D cy ad x cls below args s) pc ls st := by
  intro H locs la hP hS hla
  have hnm : ∀ n ∈ xnI, Bundle.fit n = true := by decide +kernel
  refine vx_throw0 (names := xnI) (A := AA ad s.heap.size) hc.1.1 hc.1.2.1 hl hc.1.2.2.2.1 hcls hnm (hc.1.2.2.2.2 _ hk.1) (hc.1.2.2.2.2 _ hk.2) (fun w hw => (hat w hw).elim (fun h => hc.1.2.2.2.2 w h) (fun h => hX.2.1 w h _)) hgood hX.2.2.1 hX.2.2.2 hS (by rw [hla.1]; exact hc.1.2.2.1.symm) d0 d3 d4 d7 (fun z hz => (hX.1 z hz).elim) h1 h2 (by omega) (by omega) hc.2.2.1 (fun t ht hz hk => ?_) hS.2.2 (Nat.le_refl _) (Nat.le_refl _)
  refine ⟨(), trivial, ⟨rfl, GG_kept hP hk⟩, Nat.le_trans hS.1 hz, fun q h1 h2 => ?_⟩
  rw [hk q (Nat.lt_of_lt_of_le h1 hS.1)]
  exact hS.2.1 q h1 h2
/-- a static call of a method that throws: it goes on to the caller -/
theorem rm_thrS {p : Program} {l : Launch} {e : Env} {R : Room} {s : State} {m : MethodId} {args : Array Value} {below : List Frame} {meth : Method} {c : Code} {cc : ByteArray} {nL : Nat} {own : String} {ret : Option FieldType} {D : va_G} {cy : Nat → ClassId} {ad : Ads} {x : Mem} {pc : Nat} {ls : List (Nat × Value)} {st : List Value} {E : String}
    (hc : CX p s m args meth c cc nL own ret D cy ad) (hX : XX c ad s) {y0 : MethodName} {bytes : ByteArray} {maxL n : Nat} {rt : Option FieldType} {rm : Room} {index : Nat} {As rest : List Value} (hd : decode cc pc = .ok (.invokestatic index, 3)) (hC : Ctx l y0 bytes maxL rt rm D cy ad As x E) (hL : MS own index y0 bytes maxL rt n) (hn : As.length = n) (hst : st = As.reverse ++ rest) (hw : (rest.map fun v => v.category).sum ≤ 8) (hR : (rm.cells = 1 ∧ rm.slots = 6) ∧ rm.frames + 1 ≤ R.frames ∧ 8 + (maxL + 11) + rm.locals ≤ R.locals) (hnc : 1 ≤ R.cells ∧ 6 ≤ R.slots) :
    RM p l e R s m args below meth c nL (AA ad s.heap.size) (GG D cy ad x) 0 0 (QX D cy ad x E below args s) pc ls st := by
  intro H locs la hP hS hl
  subst hst
  have hF : ∀ q, AA ad H.size q → AA ad s.heap.size q := AA_mono hS.1
  refine vx_callv (vx_runS (As := As) (rest := rest) hc.1 (hC H.size) ⟨callB_of n hc.1.2.2.2.2 (goodTB hL.1.2.2.1) rfl hR.1.1 hR.1.2 (hc.1.2.2.2.2 _ hL.1.2.1) (hc.1.2.2.2.2 _ hL.1.1) hL.1.2.2.2 hR.2, hc.1.2.2.2.2 _ hL.2⟩ ⟨fun a U g mk q => by obtain ⟨q0, q1, qP, qK, qN, qX, qF⟩ := q; exact ⟨q0, q1, qP, va_K.moved (u := U) (U := U.calling g mk a) (Vm.Alike.refl U.vm) qK, NW.same (u := U) (U := U.calling g mk a) rfl qN, XW.moved (u := U) (U := U.calling g mk a) (Vm.Alike.refl U.vm) qX, ⟨vx_Zq.moved (u := U) (U := U.calling g mk a) (Vm.Alike.refl U.vm) qF.1, vx_Zq.moved (u := U) (U := U.calling g mk a) (Vm.Alike.refl U.vm) qF.2⟩⟩, fun U hU hW => ⟨rfl, by rw [hU], by rw [hU]; exact hP, va_K.moved hW.alike hc.2.2.2.1, hc.2.2.2.2.2.warm hW, hX.2.1.moved hW.alike, hX.2.2.at hW.alike hU hS⟩⟩ rfl hn hl.1 rfl (lv_room hw) hd ⟨by omega, by omega⟩) hS (fun q _ h => hF q h) hF (fun q _ h => hF q h) ?_ (fun u t H1 locs1 ht hvm hf => hf.elim)
  intro E' ce q9 u t H1 locs1 ht hvm hu hB hz hk hS1 hcell hv hcl
  obtain ⟨rfl, hB⟩ := hB
  refine vx_out (fun z hz => (hX.1 z hz).elim) hc.2.2.1 hcell hv hcl (fun t2 ht2 hvm2 => ⟨(), trivial, ⟨rfl, by rw [ht2, ← ht]; exact hB⟩, hS1.F ht2⟩) hS1.2.2 (Nat.le_refl _) (Nat.le_refl _)
