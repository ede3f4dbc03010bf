/-! ===== the law: its links, its rows ===== -/
def MSW (own : String) (index : Nat) (y : MethodName) (bytes : ByteArray) (maxL : Nat) (hh : List (Nat × Nat × Nat × Nat)) (n : Nat) : Prop := Cond.methodLink own index y ∈ TB ∧ Cond.initialized y.cls ∈ TB ∧ Cond.codeWith y bytes maxL (some .int) hh ∈ TB ∧ (y.cls ≠ "java/lang/invoke/MethodHandle" ∧ y.cls ≠ "java/lang/invoke/VarHandle" ∧ (parseMethodDescriptor y.desc).map (fun d => d.parameters.length) = some n) ∧ Cond.static y ∈ TB
theorem mw_L_89 : MSW RL 89 yL_make cL_make 6 hh_make 5 := ⟨tbm (i := 417) (by decide +kernel) (by decide +kernel), tbm (i := 35) (by decide +kernel) (by decide +kernel), tbm (i := 419) (by decide +kernel) (by decide +kernel), ⟨by decide, by decide, by decide +kernel⟩, tbm (i := 418) (by decide +kernel) (by decide +kernel)⟩
theorem mw_L_98 : MSW RL 98 yL_battery cL_battery 5 hh_battery 4 := ⟨tbm (i := 541) (by decide +kernel) (by decide +kernel), tbm (i := 35) (by decide +kernel) (by decide +kernel), tbm (i := 543) (by decide +kernel) (by decide +kernel), ⟨by decide, by decide, by decide +kernel⟩, tbm (i := 542) (by decide +kernel) (by decide +kernel)⟩
theorem mw_L_102 : MSW RL 102 yL_press cL_press 5 hh_press 4 := ⟨tbm (i := 548) (by decide +kernel) (by decide +kernel), tbm (i := 35) (by decide +kernel) (by decide +kernel), tbm (i := 550) (by decide +kernel) (by decide +kernel), ⟨by decide, by decide, by decide +kernel⟩, tbm (i := 549) (by decide +kernel) (by decide +kernel)⟩
theorem mw_L_105 : MSW RL 105 yL_again cL_again 5 hh_again 4 := ⟨tbm (i := 597) (by decide +kernel) (by decide +kernel), tbm (i := 35) (by decide +kernel) (by decide +kernel), tbm (i := 599) (by decide +kernel) (by decide +kernel), ⟨by decide, by decide, by decide +kernel⟩, tbm (i := 598) (by decide +kernel) (by decide +kernel)⟩
theorem mw_L_108 : MSW RL 108 yL_learn cL_learn 6 hh_learn 5 := ⟨tbm (i := 619) (by decide +kernel) (by decide +kernel), tbm (i := 35) (by decide +kernel) (by decide +kernel), tbm (i := 621) (by decide +kernel) (by decide +kernel), ⟨by decide, by decide, by decide +kernel⟩, tbm (i := 620) (by decide +kernel) (by decide +kernel)⟩
theorem mw_L_111 : MSW RL 111 yL_forget cL_forget 5 hh_forget 4 := ⟨tbm (i := 631) (by decide +kernel) (by decide +kernel), tbm (i := 35) (by decide +kernel) (by decide +kernel), tbm (i := 633) (by decide +kernel) (by decide +kernel), ⟨by decide, by decide, by decide +kernel⟩, tbm (i := 632) (by decide +kernel) (by decide +kernel)⟩
theorem mw_L_114 : MSW RL 114 yL_shut cL_shut 4 hh_shut 3 := ⟨tbm (i := 642) (by decide +kernel) (by decide +kernel), tbm (i := 35) (by decide +kernel) (by decide +kernel), tbm (i := 644) (by decide +kernel) (by decide +kernel), ⟨by decide, by decide, by decide +kernel⟩, tbm (i := 643) (by decide +kernel) (by decide +kernel)⟩
theorem mw_L_118 : MSW RL 118 yL_unlock cL_unlock 4 hh_unlock 3 := ⟨tbm (i := 649) (by decide +kernel) (by decide +kernel), tbm (i := 35) (by decide +kernel) (by decide +kernel), tbm (i := 651) (by decide +kernel) (by decide +kernel), ⟨by decide, by decide, by decide +kernel⟩, tbm (i := 650) (by decide +kernel) (by decide +kernel)⟩
theorem mw_L_121 : MSW RL 121 yL_set cL_set 5 hh_set 4 := ⟨tbm (i := 656) (by decide +kernel) (by decide +kernel), tbm (i := 35) (by decide +kernel) (by decide +kernel), tbm (i := 658) (by decide +kernel) (by decide +kernel), ⟨by decide, by decide, by decide +kernel⟩, tbm (i := 657) (by decide +kernel) (by decide +kernel)⟩
theorem mw_L_124 : MSW RL 124 yL_append cL_append 4 hh_append 3 := ⟨tbm (i := 673) (by decide +kernel) (by decide +kernel), tbm (i := 35) (by decide +kernel) (by decide +kernel), tbm (i := 675) (by decide +kernel) (by decide +kernel), ⟨by decide, by decide, by decide +kernel⟩, tbm (i := 674) (by decide +kernel) (by decide +kernel)⟩
theorem mw_L_135 : MSW RL 135 yL_play cL_play 3 hh_play 2 := ⟨tbm (i := 684) (by decide +kernel) (by decide +kernel), tbm (i := 35) (by decide +kernel) (by decide +kernel), tbm (i := 686) (by decide +kernel) (by decide +kernel), ⟨by decide, by decide, by decide +kernel⟩, tbm (i := 685) (by decide +kernel) (by decide +kernel)⟩
theorem mw_L_139 : MSW RL 139 yL_undo cL_undo 3 hh_undo 2 := ⟨tbm (i := 717) (by decide +kernel) (by decide +kernel), tbm (i := 35) (by decide +kernel) (by decide +kernel), tbm (i := 719) (by decide +kernel) (by decide +kernel), ⟨by decide, by decide, by decide +kernel⟩, tbm (i := 718) (by decide +kernel) (by decide +kernel)⟩
theorem mw_L_142 : MSW RL 142 yL_fob cL_fob 5 hh_fob 4 := ⟨tbm (i := 728) (by decide +kernel) (by decide +kernel), tbm (i := 35) (by decide +kernel) (by decide +kernel), tbm (i := 730) (by decide +kernel) (by decide +kernel), ⟨by decide, by decide, by decide +kernel⟩, tbm (i := 729) (by decide +kernel) (by decide +kernel)⟩
theorem mw_L_145 : MSW RL 145 yL_slot cL_slot 6 hh_slot 5 := ⟨tbm (i := 735) (by decide +kernel) (by decide +kernel), tbm (i := 35) (by decide +kernel) (by decide +kernel), tbm (i := 737) (by decide +kernel) (by decide +kernel), ⟨by decide, by decide, by decide +kernel⟩, tbm (i := 736) (by decide +kernel) (by decide +kernel)⟩
theorem mw_L_148 : MSW RL 148 yL_door cL_door 5 hh_door 4 := ⟨tbm (i := 742) (by decide +kernel) (by decide +kernel), tbm (i := 35) (by decide +kernel) (by decide +kernel), tbm (i := 744) (by decide +kernel) (by decide +kernel), ⟨by decide, by decide, by decide +kernel⟩, tbm (i := 743) (by decide +kernel) (by decide +kernel)⟩
theorem mw_L_151 : MSW RL 151 yL_air cL_air 4 hh_air 3 := ⟨tbm (i := 749) (by decide +kernel) (by decide +kernel), tbm (i := 35) (by decide +kernel) (by decide +kernel), tbm (i := 751) (by decide +kernel) (by decide +kernel), ⟨by decide, by decide, by decide +kernel⟩, tbm (i := 750) (by decide +kernel) (by decide +kernel)⟩
theorem mw_L_154 : MSW RL 154 yL_count cL_count 4 hh_count 3 := ⟨tbm (i := 756) (by decide +kernel) (by decide +kernel), tbm (i := 35) (by decide +kernel) (by decide +kernel), tbm (i := 758) (by decide +kernel) (by decide +kernel), ⟨by decide, by decide, by decide +kernel⟩, tbm (i := 757) (by decide +kernel) (by decide +kernel)⟩
theorem mw_L_157 : MSW RL 157 yL_setting cL_setting 4 hh_setting 3 := ⟨tbm (i := 763) (by decide +kernel) (by decide +kernel), tbm (i := 35) (by decide +kernel) (by decide +kernel), tbm (i := 765) (by decide +kernel) (by decide +kernel), ⟨by decide, by decide, by decide +kernel⟩, tbm (i := 764) (by decide +kernel) (by decide +kernel)⟩
theorem mw_L_160 : MSW RL 160 yL_ifHeard cL_ifHeard 5 hh_ifHeard 4 := ⟨tbm (i := 770) (by decide +kernel) (by decide +kernel), tbm (i := 35) (by decide +kernel) (by decide +kernel), tbm (i := 772) (by decide +kernel) (by decide +kernel), ⟨by decide, by decide, by decide +kernel⟩, tbm (i := 771) (by decide +kernel) (by decide +kernel)⟩
theorem mw_L_163 : MSW RL 163 yL_opensIn cL_opensIn 5 hh_opensIn 4 := ⟨tbm (i := 777) (by decide +kernel) (by decide +kernel), tbm (i := 35) (by decide +kernel) (by decide +kernel), tbm (i := 779) (by decide +kernel) (by decide +kernel), ⟨by decide, by decide, by decide +kernel⟩, tbm (i := 778) (by decide +kernel) (by decide +kernel)⟩
theorem mw_L_166 : MSW RL 166 yL_unheard cL_unheard 5 hh_unheard 4 := ⟨tbm (i := 784) (by decide +kernel) (by decide +kernel), tbm (i := 35) (by decide +kernel) (by decide +kernel), tbm (i := 786) (by decide +kernel) (by decide +kernel), ⟨by decide, by decide, by decide +kernel⟩, tbm (i := 785) (by decide +kernel) (by decide +kernel)⟩
theorem mw_L_169 : MSW RL 169 yL_useful cL_useful 4 hh_useful 3 := ⟨tbm (i := 791) (by decide +kernel) (by decide +kernel), tbm (i := 35) (by decide +kernel) (by decide +kernel), tbm (i := 793) (by decide +kernel) (by decide +kernel), ⟨by decide, by decide, by decide +kernel⟩, tbm (i := 792) (by decide +kernel) (by decide +kernel)⟩
theorem nl_L_8 : NL RL 8 8 4 := ⟨RX8, TX8, rfl, tbm (i := 56) (by decide +kernel) (by decide +kernel), tbm (i := 57) (by decide +kernel) (by decide +kernel), tbm (i := 36) (by decide +kernel) (by decide +kernel)⟩
theorem nl_L_86 : NL RL 86 9 13 := ⟨RX9, TX9, rfl, tbm (i := 798) (by decide +kernel) (by decide +kernel), tbm (i := 799) (by decide +kernel) (by decide +kernel), tbm (i := 45) (by decide +kernel) (by decide +kernel)⟩
theorem il_L_85 : IL RL 85 yX8_init cX8_init 1 0 := ⟨tbm (i := 58) (by decide +kernel) (by decide +kernel), tbm (i := 59) (by decide +kernel) (by decide +kernel), tbm (i := 36) (by decide +kernel) (by decide +kernel), tbm (i := 60) (by decide +kernel) (by decide +kernel), rfl, by decide, by decide, by decide +kernel⟩
theorem il_L_88 : IL RL 88 yX9_init cX9_init 2 0 := ⟨tbm (i := 800) (by decide +kernel) (by decide +kernel), tbm (i := 801) (by decide +kernel) (by decide +kernel), tbm (i := 45) (by decide +kernel) (by decide +kernel), tbm (i := 802) (by decide +kernel) (by decide +kernel), rfl, by decide, by decide, by decide +kernel⟩
/-- what stands beside CX in the law -/
def LX (ad : Ads) (s : State) : Prop := XW s ∧ NC s ∧ SF ad s.heap.size s
section LAWR
variable {p : Program} {l : Launch} {e : Env} {R : Room} {s : State} {m : MethodId} {args : Array Value} {below : List Frame} {meth : Method} {c : Code} {cc : ByteArray} {nL : Nat} {own : String} {ret : Option FieldType} {D : va_G} {cy : Nat → ClassId} {ad : Ads} {A : Nat → Prop} {G : Heap → Prop} {nc ns : Nat} {Q : State → Prop} {x : Mem} {pc : Nat} {ls : List (Nat × Value)} {st : List Value}
theorem rm_callW (hc : CX p s m args meth c cc nL own ret D cy ad) (hX : LX ad s) {y0 : MethodName} {bytes : ByteArray} {maxL n : Nat} {hh : List (Nat × Nat × Nat × Nat)} {rm : Room} {index : Nat} {As rest : List Value} {post : Int32 → Mem → Prop} (hd : decode cc pc = .ok (.invokestatic index, 3)) (hC : Ctw l y0 bytes maxL hh rm D cy ad As x post) (hL : MSW own index y0 bytes maxL hh n) (hn : As.length = n) (hst : st = As.reverse ++ rest) (hw : (rest.map fun v => v.category).sum ≤ 8) (hR : (rm.cells = 1 ∧ rm.slots = 6) ∧ rm.frames + 1 ≤ R.frames ∧ 8 + (maxL + 11) + rm.locals ≤ R.locals) (hnc : nc + 1 ≤ R.cells ∧ ns + 6 ≤ R.slots)
    (kk : ∀ (r : Int32) (y : Mem), post r y → RM p l e R s m args below meth c nL (AA ad s.heap.size) (GG D cy ad y) (nc + 1) (ns + 6) Q (pc + 3) ls (.int r :: rest)) : RM p l e R s m args below meth c nL (AA ad s.heap.size) (GG D cy ad x) nc ns Q pc ls st := by
  intro H locs la hP hS hl
  subst hst
  have hF : ∀ q, AA ad H.size q → AA ad s.heap.size q := AA_mono hS.1
  have cw : vx_CSW R s args own index y0 bytes maxL (some .int) hh (.codeWith y0 bytes maxL (some .int) hh :: TB) rm 1 6 n := ⟨⟨hR.1.1, hR.1.2, hR.2.1, hR.2.2, pay_in hc.1.2.2.2.2 (goodTB hL.2.2.1), List.mem_cons_self⟩, hc.1.2.2.2.2 _ hL.2.2.1, hc.1.2.2.2.2 _ hL.2.1, ⟨hL.2.2.2.1.1, hL.2.2.2.1.2.1⟩, fun sig h => by
    have h2 := hL.2.2.2.1.2.2
    rw [h] at h2
    exact (Option.some.inj h2).symm, hc.1.2.2.2.2 _ hL.1, hc.1.2.2.2.2 _ hL.2.2.2.2⟩
  exact va_calli (vx_runSW (As := As) (rest := rest) hc.1 (hC H.size) cw ⟨fun a U g mk q => by obtain ⟨q0, q1, qP, qK, qN, qX, qC, qF⟩ := q; exact ⟨q0, q1, qP, va_K.moved (u := U) (U := U.calling g mk a) (Vm.Alike.refl U.vm) qK, NW.same (u := U) (U := U.calling g mk a) rfl qN, XW.moved (u := U) (U := U.calling g mk a) (Vm.Alike.refl U.vm) qX, NC.moved (u := U) (U := U.calling g mk a) (Vm.Alike.refl U.vm) qC, ⟨vx_Zq.moved (u := U) (U := U.calling g mk a) (Vm.Alike.refl U.vm) qF.1, vx_Zq.moved (u := U) (U := U.calling g mk a) (Vm.Alike.refl U.vm) qF.2⟩⟩, fun U hU hW => ⟨rfl, by rw [hU], by rw [hU]; exact hP, va_K.moved hW.alike hc.2.2.2.1, hc.2.2.2.2.2.warm hW, hX.1.moved hW.alike, hX.2.1.moved hW.alike, hX.2.2.at hW.alike hU hS⟩⟩ rfl hn hl.1 rfl (lv_room hw) hd ⟨hnc.1, hnc.2⟩) hS (fun q _ h => hF q h) hF (fun r u t H1 locs1 ht hvm hw hB hz1 hk1 hS1 => kk r u hw H1 locs1 la (by rw [← ht]; exact hB) hS1 hl)
theorem rm_sld (hc : CX p s m args meth c cc nL own ret D cy ad) {b L : Nat} {xs : Nat → Int32} (hX : va_X b L xs s s.heap) (hbl : b < s.heap.size) (hbA : ¬ A b) (hd : decode cc pc = .ok (.iaload, 1)) {iv : Int32} {i : Nat} (hi : i < L) (hL : L < 2 ^ 31) (hiv : iv = nI i) (kk : RM p l e R s m args below meth c nL A G nc ns Q (pc + 1) ls (.int (xs i) :: st)) : RM p l e R s m args below meth c nL A G nc ns Q pc ls (.int iv :: .ref b :: st) := by
  intro H locs la hP hS hl
  subst hiv
  refine va_sld hc.1.1 hc.1.2.1 hX hbl hbA hS (vp_in_nI hi hL) hd ?_
  rw [nI_clamp (by omega)]
  exact kk H locs la hP hS hl
theorem rm_slen (hc : CX p s m args meth c cc nL own ret D cy ad) {b L : Nat} {xs : Nat → Int32} (hX : va_X b L xs s s.heap) (hbl : b < s.heap.size) (hbA : ¬ A b) (hd : decode cc pc = .ok (.arraylength, 1)) (kk : RM p l e R s m args below meth c nL A G nc ns Q (pc + 1) ls (.int (nI L) :: st)) : RM p l e R s m args below meth c nL A G nc ns Q pc ls (.ref b :: st) :=
  fun H locs la hP hS hl => va_slen hc.1.1 hc.1.2.1 hX hbl hbA hS hd (kk H locs la hP hS hl)
theorem rm_wid {nc' ns' : Nat} (h1 : nc ≤ nc') (h2 : ns ≤ ns') (kk : RM p l e R s m args below meth c nL A G nc' ns' Q pc ls st) : RM p l e R s m args below meth c nL A G nc ns Q pc ls st :=
  fun H locs la hP hS hl => W.widen h1 h2 (kk H locs la hP hS hl)
end LAWR
theorem m31 (x : Int32) : ∃ k, k < 32 ∧ x &&& 31 = nI k := by
  have e : x = nI x.toBitVec.toNat := by
    apply Int32.toBitVec_inj.1
    show x.toBitVec = BitVec.ofNat 32 x.toBitVec.toNat
    simp
  refine ⟨x.toBitVec.toNat % 32, Nat.mod_lt _ (by omega), ?_⟩
  have h : ∀ k : Nat, nI k &&& 31 = nI (k % 32) := fun k => by
    apply Int32.toBitVec_inj.1
    show BitVec.ofNat 32 k &&& BitVec.ofNat 32 31 = BitVec.ofNat 32 (k % 32)
    rw [show k % 32 = k &&& 31 by rw [show (31 : Nat) = 2 ^ 5 - 1 from rfl, Nat.and_two_pow_sub_one_eq_mod]]
    apply BitVec.eq_of_getLsbD_eq
    intro i hi
    simp [hi]
  rw [← h, ← e]
/-- what stands throughout the law -/
def LW (p : Program) (s : State) (m : MethodId) (args : Array Value) (meth : Method) (c : Code) (D : va_G) (cy : Nat → ClassId) (ad : Ads) (l : Launch) (b L : Nat) (xs : Nat → Int32) : Prop :=
  CX p s m args meth c code 9 RL ret D cy ad ∧ LX ad s ∧ l.stackTraces = false ∧ va_X b L xs s s.heap ∧ b < s.heap.size ∧ ¬ AA ad s.heap.size b ∧ L ≤ 2048
abbrev l5 (ad : Ads) (b : Nat) (t : Nat) : List (Nat × Value) := [(0, .ref b), (1, .ref (ad 8 9 0)), (2, .ref (ad 15 14 0)), (3, .ref (ad 16 19 0)), (4, .int (nI (4 * t)))]
abbrev l6 (ad : Ads) (b : Nat) (t : Nat) (k : Int32) : List (Nat × Value) := [(0, .ref b), (1, .ref (ad 8 9 0)), (2, .ref (ad 15 14 0)), (3, .ref (ad 16 19 0)), (4, .int (nI (4 * t))), (5, .int k)]
section LAWS
variable {p : Program} {l : Launch} {e : Env} {s : State} {m : MethodId} {args : Array Value} {below : List Frame} {meth : Method} {c : Code} {D : va_G} {cy : Nat → ClassId} {ad : Ads} {nc ns : Nat} {Q : State → Prop} {x : Mem} {pc b L : Nat} {xs : Nat → Int32} {ls : List (Nat × Value)} {st : List Value}
/-- script[i + j] -/
theorem law_arg (h : LW p s m args meth c D cy ad l b L xs) {t j : Nat} {k : Int} (d0 : decode code pc = .ok (.aload_n 0, 1)) (d1 : decode code (pc + 1) = .ok (.iload 4, 2)) (d3 : decode code (pc + 3) = .ok (.iconst k, 1)) (d4 : decode code (pc + 4) = .ok (.iadd, 1)) (d5 : decode code (pc + 5) = .ok (.iaload, 1)) (hk : Int32.ofInt k = nI j) (h0 : lk ls 0 = some (.ref b)) (h4 : lk ls 4 = some (.int (nI (4 * t)))) (hj : j < 4) (ht : 4 * t + 4 ≤ L) {G : Heap → Prop}
    (kk : RM p l e room_1 s m args below meth c 9 (AA ad s.heap.size) G nc ns Q (pc + 6) ls (.int (xs (4 * t + j)) :: st)) : RM p l e room_1 s m args below meth c 9 (AA ad s.heap.size) G nc ns Q pc ls st := by
  obtain ⟨hc, hX, hfl, hsc, hbl, hbA, hL⟩ := h
  refine rm_aload_n hc d0 rfl h0 ?_
  refine rm_iload hc d1 h4 ?_
  refine rm_iconst hc d3 hk ?_
  refine rm_iadd hc d4 (fun v ev => ?_)
  exact rm_sld hc hsc hbl hbA d5 (i := 4 * t + j) (by omega) (by omega) (ev.trans (nI_add _ _)) kk
/-- behind the model's answer: thrown alike, answered alike -/
theorem law_tail (h : LW p s m args meth c D cy ad l b L xs) {t : Nat} {k bb : Int32} {off : Int} (h1 : x 15 2 = k) (h2 : k = 0 → x 16 0 = bb)
    (d0 : decode code pc = .ok (.istore 6, 2)) (d2 : decode code (pc + 2) = .ok (.aload_n 2, 1)) (d3 : decode code (pc + 3) = .ok (.invokevirtual 95, 3)) (d6 : decode code (pc + 6) = .ok (.iload 5, 2)) (d8 : decode code (pc + 8) = .ok (.if_icmp .eq 5, 3)) (d13 : decode code (pc + 13) = .ok (.iload 5, 2)) (d15 : decode code (pc + 15) = .ok (.ifCond .ne 15, 3)) (d18 : decode code (pc + 18) = .ok (.aload_n 3, 1)) (d19 : decode code (pc + 19) = .ok (.iconst 0, 1)) (d20 : decode code (pc + 20) = .ok (.laload, 1)) (d21 : decode code (pc + 21) = .ok (.iload 6, 2)) (d23 : decode code (pc + 23) = .ok (.i2l, 1)) (d24 : decode code (pc + 24) = .ok (.lcmp, 1)) (d25 : decode code (pc + 25) = .ok (.ifCond .eq 5, 3)) (d30 : decode code (pc + 30) = .ok (.goto off, 3)) (hoff : ((pc + 30 : Nat) : Int) + off = ((1637 : Nat) : Int)) (hnc : nc ≤ room_1.cells ∧ ns ≤ room_1.slots)
    (kk : RM p l e room_1 s m args below meth c 9 (AA ad s.heap.size) (GG D cy ad x) nc ns Q 1637 (l5 ad b t) []) : RM p l e room_1 s m args below meth c 9 (AA ad s.heap.size) (GG D cy ad x) nc ns Q pc (l6 ad b t k) [.int bb] := by
  obtain ⟨hc, hX, hfl, hsc, hbl, hbA, hL⟩ := h
  have hI : IJ ad := hc.2.2.2.2.1
  refine rm_istore (ls' := [(0, .ref b), (1, .ref (ad 8 9 0)), (2, .ref (ad 15 14 0)), (3, .ref (ad 16 19 0)), (4, .int (nI (4 * t))), (5, .int k), (6, .int bb)]) hc d0 (by omega) rfl ?_
  refine rm_aload_n hc d2 rfl rfl ?_
  refine rm_calliV (As := []) (rest := []) hc d3 (c_X9_thrown hI x) mv_L_95 dm_14 rfl rfl (hn := rfl) (hst := rfl) (hw := Nat.le_of_ble_eq_true rfl) (hR := ⟨⟨rfl, rfl⟩, Nat.le_of_ble_eq_true rfl, Nat.le_of_ble_eq_true rfl⟩) (hnc := hnc) (fun r y hr => ?_)
  obtain ⟨hr1, hr2⟩ := hr
  subst hr2
  have hrk : r = k := hr1.trans h1
  have fin : RM p l e room_1 s m args below meth c 9 (AA ad s.heap.size) (GG D cy ad y) nc ns Q (pc + 30) [(0, .ref b), (1, .ref (ad 8 9 0)), (2, .ref (ad 15 14 0)), (3, .ref (ad 16 19 0)), (4, .int (nI (4 * t))), (5, .int k), (6, .int bb)] [] := by
    refine rm_goto hc d30 hoff ?_
    exact rm_sub [0, 1, 2, 3, 4] rfl kk
  refine rm_iload hc d6 rfl ?_
  refine rm_icmp_eq (tgt := pc + 13) hc d8 (by omega) (fun _ => ?_) (fun q => absurd hrk q)
  refine rm_iload hc d13 rfl ?_
  refine rm_if_ne (tgt := pc + 30) hc d15 (by omega) (fun _ => fin) (fun hk0 => ?_)
  refine rm_aload_n hc d18 rfl rfl ?_
  refine rm_iconst (v := 0) hc d19 (by decide) ?_
  refine rm_lald hc d20 (fun v ev => ?_)
  refine rm_iload hc d21 rfl ?_
  refine rm_i2l hc d23 (fun w ew => ?_)
  refine rm_lcmp hc d24 (fun z ez => ?_)
  have hvw : v = w := by rw [ev, ew, h2 hk0]
  have hz : z = 0 := by
    rw [ez, hvw, if_neg (fun q : w > w => Int64.lt_irrefl q), if_pos rfl]
  exact rm_if_eq (tgt := pc + 30) hc d25 (by omega) (fun _ => fin) (fun q => absurd hz q)
end LAWS
