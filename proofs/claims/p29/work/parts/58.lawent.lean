/-! ===== the law: its loop, from its entry to its end ===== -/
theorem nl_L_10 : NL RL 10 8 4 := ⟨RX8, TX8, rfl, tbm (i := 26) (by decide +kernel) (by decide +kernel), tbm (i := 27) (by decide +kernel) (by decide +kernel), tbm (i := 8) (by decide +kernel) (by decide +kernel)⟩
theorem il_L_95 : IL RL 95 yX8_init cX8_init 1 0 := ⟨tbm (i := 28) (by decide +kernel) (by decide +kernel), tbm (i := 29) (by decide +kernel) (by decide +kernel), tbm (i := 8) (by decide +kernel) (by decide +kernel), tbm (i := 30) (by decide +kernel) (by decide +kernel), rfl, by decide, by decide, by decide +kernel⟩
theorem nv_8l : ∀ r, vwCl[8]? = some r → ∀ j, j < 4 → defaultValue ((parseFieldDescriptor (r.2.1 j).2.2.1).getD .int) = vp_V [.null, .null, .null, .null] j := by
  intro r hr j hj
  cases hr
  rcases (show j = 0 ∨ j = 1 ∨ j = 2 ∨ j = 3 by omega) with q | q | q | q <;> subst q <;> rfl
abbrev l5 (ad : Ads) (b T t : Nat) : List (Nat × Value) := [(0, .ref b), (1, .ref (ad 8 9 0)), (2, .int 1), (3, .int (nI T)), (4, .int (nI t))]
section LOOP
variable {p : Program} {l : Launch} {e : Env} {s : State} {m : MethodId} {args : Array Value} {below : List Frame} {meth : Method} {c : Code} {D : va_G} {cy : Nat → ClassId} {ad : Ads} {Q : State → Prop} {b L T : Nat} {xs : Nat → Int32}
theorem law_loop (hc : CX p s m args meth c code 21 RL ret D cy ad) (hX : XS ad b L xs s) (hfl : l.stackTraces = false) (hT : 3 * T ≤ L) (hT4 : T ≤ 40) (hL : L < 2 ^ 20) (hend : ∀ (x : Mem) (nc ns : Nat), nc ≤ 738558 → ns ≤ 6885795 → RM p l e room_1 s m args below meth c 21 (AA ad s.heap.size) (GG D cy ad x) nc ns Q 522 [(2, .int 1)] []) : ∀ (f t : Nat) (x : Mem) (nc ns : Nat), t + f = T → I29 x (4 * t) → nc + f ≤ 300 → ns + 6 * f ≤ 3000 → RM p l e room_1 s m args below meth c 21 (AA ad s.heap.size) (GG D cy ad x) nc ns Q 32 (l5 ad b T t) []
  | 0, t, x, nc, ns, ef, hi, h1, h2 => by
    refine rm_iload hc dL_law_32 rfl ?_
    refine rm_iload_n hc dL_law_34 rfl rfl ?_
    exact rm_icmp_ge (tgt := 522) hc dL_law_35 (by decide) (fun _ => rm_sub [2] rfl (hend x nc ns (by omega) (by omega))) (fun h => absurd ((nI_leI (a := T) (b := t) (by omega) (by omega)).mpr (by omega)) h)
  | f + 1, t, x, nc, ns, ef, hi, h1, h2 => by
    refine rm_iload hc dL_law_32 rfl ?_
    refine rm_iload_n hc dL_law_34 rfl rfl ?_
    refine rm_icmp_ge (tgt := 522) hc dL_law_35 (by decide) (fun h => absurd ((nI_leI (a := T) (b := t) (by omega) (by omega)).mp h) (by omega)) (fun _ => ?_)
    have hnc : nc + 1 ≤ room_1.cells ∧ ns + 6 ≤ room_1.slots := by
      show nc + 1 ≤ 738558 ∧ ns + 6 ≤ 6885795
      omega
    exact law_turn hc hX hfl hi (by omega) (by omega) hT hL hnc (fun x' hx' => law_loop hc hX hfl hT hT4 hL hend f (t + 1) x' (nc + 1) (ns + 6) (by omega) hx' (by omega) (by omega))
end LOOP
section ENT
variable {p : Program} {l : Launch} {e : Env} {s : State} {m : MethodId} {below : List Frame} {meth : Method} {c : Code} {D : va_G} {cy : Nat → ClassId} {b L : Nat} {xs : Nat → Int32}
theorem law_end {ad ad2 : Ads} {G : Heap → Prop} {nc ns : Nat} (hc : CX p s m #[Value.ref b] meth c code 21 RL ret D cy ad2) (hA : ∀ q, AA ad s.heap.size q → s.heap.size ≤ q) (h1 : nc ≤ 738558) (h2 : ns ≤ 6885795) : RM p l e room_1 s m #[Value.ref b] below meth c 21 (AA ad s.heap.size) G nc ns (lw_Z below #[Value.ref b] s) 522 [(2, .int 1)] [] := by
  refine rm_iload_n hc dL_law_522 rfl rfl ?_
  intro H locs la hP hS hl
  refine va_forget (fun q hq => hA _ (hS.2.2 q hq)) ?_
  refine W.widen h1 h2 ?_
  refine W.base ?_
  exact lw_ret (Drawn.sameBut.refl s.drawn lw_cs) hc.1.1 hc.1.2.1 hc.2.1 hc.2.2.1 dL_law_523
theorem law_all (hc : CX p s m #[Value.ref b] meth c code 21 RL ret D cy adD) (hAO : AOW s) (hXW : XW s) (hNC : NC s) (hSF : ∀ ad : Ads, (∀ q, AA ad s.heap.size q → s.heap.size ≤ q) → SF ad s.heap.size s) (hfl : l.stackTraces = false) (hX : va_X b L xs s s.heap) (hbl : b < s.heap.size) (hL : L ≤ 260) :
    RM p l e room_1 s m #[Value.ref b] below meth c 21 (fun q : Nat => s.heap.size ≤ q) (GW D (fun q : Nat => s.heap.size ≤ q) []) 0 0 (lw_Z below #[Value.ref b] s) 0 [(0, .ref b)] [] := by
  have hA : ∀ q : Nat, s.heap.size ≤ q → (fun q : Nat => s.heap.size ≤ q) q := fun _ h => h
  have hbA : ¬ (fun q : Nat => s.heap.size ≤ q) b := by
    show ¬ s.heap.size ≤ b
    omega
  refine rc_new (fs := [.null, .null, .null, .null]) hc dL_law_0 nl_L_10 hA nv_8l ⟨Nat.le_of_ble_eq_true rfl, Nat.le_of_ble_eq_true rfl⟩ (fun q_1 => ?_)
  refine rm_dup hc dL_law_3 rfl ?_
  refine rc_initG (As := []) (rest := [.ref q_1]) hc dL_law_4 c_X8_init il_L_95 hAO hA rfl rfl (Nat.le_of_ble_eq_true rfl) ⟨⟨rfl, rfl⟩, Nat.le_of_ble_eq_true rfl, Nat.le_of_ble_eq_true rfl⟩ ⟨Nat.le_of_ble_eq_true rfl, Nat.le_of_ble_eq_true rfl⟩ (fun z w hw => rc_wn (ws' := w) (nc' := 207) (ns' := 963) (List.nil_append w) rfl rfl ?_)
  refine rm_astore_n (ls' := [(0, .ref b), (1, .ref q_1)]) hc dL_law_7 rfl (by omega) rfl ?_
  refine rm_iconst (v := 1) hc dL_law_8 (by decide) ?_
  refine rm_istore_n (ls' := [(0, .ref b), (1, .ref q_1), (2, .int 1)]) hc dL_law_9 rfl (by omega) rfl ?_
  have fin : ∀ T : Nat, T ≤ 40 → 3 * T ≤ L → RM p l e room_1 s m #[Value.ref b] below meth c 21 (fun q : Nat => s.heap.size ≤ q) (GW D (fun q : Nat => s.heap.size ≤ q) w) 207 963 (lw_Z below #[Value.ref b] s) 28 [(0, .ref b), (1, .ref q_1), (2, .int 1)] [.int (nI T)] := fun T hT4 hT => by
    refine rm_istore_n (ls' := [(0, .ref b), (1, .ref q_1), (2, .int 1), (3, .int (nI T))]) hc dL_law_28 rfl (by omega) rfl ?_
    refine rm_iconst (v := 0) hc dL_law_29 (by decide) ?_
    refine rm_istore (ls' := l5 (adW q_1 z) b T 0) hc dL_law_30 (by omega) rfl ?_
    intro H locs la hPD hS hl
    have hPD2 : GW D (fun q : Nat => s.heap.size ≤ q) (mpW cy (adW q_1 z) ixW) H := by
      rw [as_W]
      rw [hw] at hPD
      exact hPD
    generalize adW q_1 z = ad at hPD2 hl
    obtain ⟨hI, hP, hA2⟩ := asm hPD2.1 hPD2.2
    have hAi : ∀ q, AA ad s.heap.size q → s.heap.size ≤ q := fun q h => h.elim (fun ⟨i, hi, eq⟩ => by rw [eq]; exact hA2 i hi) id
    have eA : AA ad s.heap.size = fun q : Nat => s.heap.size ≤ q := funext fun q => propext ⟨hAi q, Or.inr⟩
    have hc2 : CX p s m #[Value.ref b] meth c code 21 RL ret D cy ad := ⟨hc.1, hc.2.1, hc.2.2.1, hc.2.2.2.1, hI, hc.2.2.2.2.2⟩
    exact law_loop hc2 ⟨⟨hXW, hNC, hSF ad hAi⟩, hX, hbl, fun q => absurd (hAi _ q) (by omega)⟩ hfl hT hT4 (by omega) (fun x nc ns h1 h2 => law_end hc2 hAi h1 h2) T 0 ini 207 963 (by omega) ini_inv (by omega) (by omega) H locs la hP (by rw [eA]; exact hS) hl
  have dv : nI L / 3 = nI (L / 3) := pk_div (d := 3) (by omega) (by omega) (by omega)
  refine rm_aload_n hc dL_law_10 rfl rfl ?_
  refine rm_slen hc hX hbl hbA dL_law_11 ?_
  refine rm_iconst (v := 3) hc dL_law_12 (by decide) ?_
  refine rm_idiv hc dL_law_13 (by decide) (fun v ev => ?_)
  obtain rfl : v = nI (L / 3) := ev.trans dv
  refine rm_bipush (v := 40) hc dL_law_14 (by decide) ?_
  refine rm_icmp_le (tgt := 24) hc dL_law_16 (by decide) (fun hle => ?_) (fun hgt => ?_)
  · refine rm_aload_n hc dL_law_24 rfl rfl ?_
    refine rm_slen hc hX hbl hbA dL_law_25 ?_
    refine rm_iconst (v := 3) hc dL_law_26 (by decide) ?_
    refine rm_idiv hc dL_law_27 (by decide) (fun v ev => ?_)
    obtain rfl : v = nI (L / 3) := ev.trans dv
    exact fin (L / 3) ((nI_leI (a := L / 3) (b := 40) (by omega) (by omega)).mp hle) (by omega)
  · refine rm_bipush (v := 40) hc dL_law_19 (by decide) ?_
    refine rm_goto (tgt := 28) hc dL_law_21 (by decide) ?_
    refine fin 40 (by omega) ?_
    have : ¬ L / 3 ≤ 40 := fun q => hgt ((nI_leI (a := L / 3) (b := 40) (by omega) (by omega)).mpr q)
    omega
end ENT
