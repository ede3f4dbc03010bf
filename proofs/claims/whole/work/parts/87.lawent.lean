/-! ===== the law from its entry to its end ===== -/
theorem nv_8 : ∀ r, vwCl[8]? = some r → ∀ j, j < 4 → defaultValue ((parseFieldDescriptor (r.2.1 j).2.2.1).getD .int) = vp_V [.null, .null, .null, .null] j := by
  intro r hr j hj
  cases hr
  rcases (show j = 0 ∨ j = 1 ∨ j = 2 ∨ j = 3 by omega) with q | q | q | q <;> subst q <;> rfl
theorem nv_9 : ∀ r, vwCl[9]? = some r → ∀ j, j < 13 → defaultValue ((parseFieldDescriptor (r.2.1 j).2.2.1).getD .int) = vp_V [.null, .null, .null, .int 0, .null, .int 0, .int 0, .int 0, .int 0, .null, .int 0, .int 0, .int 0] j := by
  intro r hr j hj
  cases hr
  rcases (show j = 0 ∨ j = 1 ∨ j = 2 ∨ j = 3 ∨ j = 4 ∨ j = 5 ∨ j = 6 ∨ j = 7 ∨ j = 8 ∨ j = 9 ∨ j = 10 ∨ j = 11 ∨ j = 12 by omega) with q | q | q | q | q | q | q | q | q | q | q | q | q <;> subst q <;> rfl
section ENT
variable {p : Program} {l : Launch} {e : Env} {s : State} {m : MethodId} {below : List Frame} {meth : Method} {c : Code} {D : va_G} {cy : Nat → ClassId} {b L : Nat} {xs : Nat → Int32}
theorem law_end {ad ad2 : Ads} {G : Heap → Prop} {nc ns : Nat} {ls : List (Nat × Value)} (hc : CX p s m #[Value.ref b] meth c code 9 RL ret D cy ad2) (hA : ∀ q, AA ad s.heap.size q → s.heap.size ≤ q) (h1 : nc ≤ 642736) (h2 : ns ≤ 7167896) : RM p l e room_1 s m #[Value.ref b] below meth c 9 (AA ad s.heap.size) G nc ns (lw_Z below #[Value.ref b] s) 1643 ls [] := by
  refine rm_iconst (v := 1) hc dL_law_1643 (by decide) ?_
  intro H locs la hP hS hl
  refine va_forget (fun q hq => hA _ (hS.2.2 q hq)) ?_
  refine W.widen h1 h2 ?_
  refine W.base ?_
  exact lw_ret (Drawn.sameBut.refl s.drawn lw_cs) hc.1.1 hc.1.2.1 hc.2.1 hc.2.2.1 dL_law_1644
theorem law_all (hc : CX p s m #[Value.ref b] meth c code 9 RL ret D cy adD) (hAO : AOW s) (hXW : XW s) (hNC : NC s) (hSF : ∀ ad : Ads, (∀ q, AA ad s.heap.size q → s.heap.size ≤ q) → SF ad s.heap.size s) (hfl : l.stackTraces = false) (hX : va_X b L xs s s.heap) (hbl : b < s.heap.size) (hL : L ≤ 2048) :
    RM p l e room_1 s m #[Value.ref b] below meth c 9 (fun q : Nat => s.heap.size ≤ q) (GW D (fun q : Nat => s.heap.size ≤ q) []) 0 0 (lw_Z below #[Value.ref b] s) 0 [(0, .ref b)] [] := by
  have hA : ∀ q : Nat, s.heap.size ≤ q → (fun q : Nat => s.heap.size ≤ q) q := fun _ h => h
  refine rc_new (fs := [.null, .null, .null, .null]) hc dL_law_0 nl_L_8 hA nv_8 ⟨Nat.le_of_ble_eq_true rfl, Nat.le_of_ble_eq_true rfl⟩ (fun q_1 => ?_)
  refine rm_dup hc dL_law_3 rfl ?_
  refine rc_initG (As := []) (rest := [.ref q_1]) hc dL_law_4 c_X8_init il_L_85 hAO hA rfl rfl (Nat.le_of_ble_eq_true rfl) ⟨⟨rfl, rfl⟩, Nat.le_of_ble_eq_true rfl, Nat.le_of_ble_eq_true rfl⟩ ⟨Nat.le_of_ble_eq_true rfl, Nat.le_of_ble_eq_true rfl⟩ (fun z w hw => rc_wn (ws' := w) (nc' := 207) (ns' := 963) (List.nil_append w) rfl rfl ?_)
  refine rm_astore_n (ls' := [(0, .ref b), (1, .ref q_1)]) hc dL_law_7 rfl (by omega) rfl ?_
  refine rc_new (fs := [.null, .null, .null, .int 0, .null, .int 0, .int 0, .int 0, .int 0, .null, .int 0, .int 0, .int 0]) hc dL_law_8 nl_L_86 hA nv_9 ⟨Nat.le_of_ble_eq_true rfl, Nat.le_of_ble_eq_true rfl⟩ (fun q_2 => ?_)
  refine rm_dup hc dL_law_11 rfl ?_
  refine rc_initG (As := []) (rest := [.ref q_2]) hc dL_law_12 c_X9_init il_L_88 hAO hA rfl rfl (Nat.le_of_ble_eq_true rfl) ⟨⟨rfl, rfl⟩, Nat.le_of_ble_eq_true rfl, Nat.le_of_ble_eq_true rfl⟩ ⟨Nat.le_of_ble_eq_true rfl, Nat.le_of_ble_eq_true rfl⟩ (fun z9 w9 hw9 => rc_wn (ws' := w ++ w9) (nc' := 213) (ns' := 1897) rfl rfl rfl ?_)
  refine rm_astore_n (ls' := [(0, .ref b), (1, .ref q_1), (2, .ref q_2)]) hc dL_law_15 rfl (by omega) rfl ?_
  refine rm_iconst (v := 1) hc dL_law_16 (by decide) ?_
  refine rc_newl (N := 1) hc dL_law_17 hA (by decide) (by decide) (by decide) ⟨Nat.le_of_ble_eq_true rfl, Nat.le_of_ble_eq_true rfl⟩ (fun o => rc_wn (ws' := (w ++ w9) ++ [(o, .inl (cy 5, 1, .inr (.inl (fun _ => 0))))]) (nc' := 214) (ns' := 1898) rfl rfl rfl ?_)
  refine rm_astore_n (ls' := [(0, .ref b), (1, .ref q_1), (2, .ref q_2), (3, .ref o)]) hc dL_law_19 rfl (by omega) rfl ?_
  refine rm_iconst (v := 0) hc dL_law_20 (by decide) ?_
  refine rm_istore (ls' := l5 (adW q_1 z q_2 z9 o) b 0) hc dL_law_21 (by omega) rfl ?_
  intro H locs la hPD hS hl
  have hPD2 : GW D (fun q : Nat => s.heap.size ≤ q) (mpW cy (adW q_1 z q_2 z9 o) ixW) H := by
    rw [as_W]
    rw [hw, hw9] at hPD
    exact hPD
  generalize adW q_1 z q_2 z9 o = ad at hPD2 hl
  obtain ⟨hI, hP, hA2⟩ := asm hPD2.1 hPD2.2
  have hAi : ∀ q, AA ad s.heap.size q → s.heap.size ≤ q := fun q h => h.elim (fun ⟨i, hi, eq⟩ => by rw [eq]; exact hA2 i hi) id
  have eA : AA ad s.heap.size = fun q : Nat => s.heap.size ≤ q := funext fun q => propext ⟨hAi q, Or.inr⟩
  have hc2 : CX p s m #[Value.ref b] meth c code 9 RL ret D cy ad := ⟨hc.1, hc.2.1, hc.2.2.1, hc.2.2.2.1, hI, hc.2.2.2.2.2⟩
  have hLW : LW p s m #[Value.ref b] meth c D cy ad l b L xs := ⟨hc2, ⟨hXW, hNC, hSF ad hAi⟩, hfl, hX, hbl, fun q => absurd (hAi _ q) (by omega), hL⟩
  exact law_loop hLW (fun x nc ns h1 h2 => law_end hc2 hAi h1 h2) 513 0 ini rfl ini_inv H locs la hP (by rw [eA]; exact hS) hl
end ENT
