theorem low_n {a v u : Int32} {n : Nat} (h0 : 0 < n) (hn : n < 2 ^ 20) (hu : u = a &&& 2147483647) (hv : v = u - u / nI n * nI n) : v = nI (lo a n) := by
  obtain ⟨j, hj, e⟩ := pk_andE a (m := 2147483647) 31 (by decide +kernel)
  unfold lo
  rw [hv, hu, e, nI_clamp hj]
  exact pk_rem hj h0 (by omega)
abbrev rm_L_low : Room := { frames := 0, cells := 0, slots := 0, locals := 0 }
set_option maxHeartbeats 4000000 in
set_option maxRecDepth 100000 in
theorem c_L_low {l : Launch} {D : va_G} {cy : Nat → ClassId} {ad : Ads} (hI : IJ ad) (x : Mem) (a : Int32) {n : Nat} (h0 : 0 < n) (hn : n < 2 ^ 20) : Cti l yL_low cL_low 2 (some .int) rm_L_low D cy ad [.int a, .int (nI (n))] x (fun r y => r = nI (lo a n) ∧ y = x) := by
  refine rm_entry (Qc := Qi D cy ad (fun r y => r = nI (lo a n) ∧ y = x)) hI (by decide) (Nat.le_of_ble_eq_true rfl) ?_
  intro p e s m args below meth c hc
  show RM _ _ _ _ _ _ _ _ _ _ _ _ _ _ _ _ _ [(0, .int a), (1, .int (nI (n)))] []
  refine rm_iload_n hc dL_low_0 rfl rfl ?_
  refine rm_ldc hc dL_low_1 kc_L_7 ?_
  refine rm_iand hc dL_low_3 (fun v_1 e_1 => ?_)
  refine rm_iload_n hc dL_low_4 rfl rfl ?_
  refine rm_irem hc dL_low_5 (nI_ne0 h0 (by omega)) (fun v_2 e_2 => ?_)
  exact rm_iret hc dL_low_6 ⟨low_n h0 hn e_1 e_2, rfl⟩
abbrev rm_L_cell : Room := { frames := 0, cells := 0, slots := 0, locals := 0 }
set_option maxHeartbeats 4000000 in
set_option maxRecDepth 100000 in
theorem c_L_cell {l : Launch} {D : va_G} {cy : Nat → ClassId} {ad : Ads} (hI : IJ ad) (x : Mem) {b L : Nat} {xs : Nat → Int32} {i : Nat} (hi : i < L) (hL : L < 2 ^ 31) : Cts l yL_cell cL_cell 2 (some .int) rm_L_cell D cy ad b L xs 0 0 [.ref b, .int (nI (i))] x (fun r y => r = xs i ∧ y = x) := by
  refine rm_entryS hI (by decide) (Nat.le_of_ble_eq_true rfl) ?_
  intro p e s m args below meth c hc hX
  show RM _ _ _ _ _ _ _ _ _ _ _ _ _ _ _ _ _ [(0, .ref b), (1, .int (nI (i)))] []
  refine rm_iload_n hc dL_cell_0 rfl rfl ?_
  refine rm_aload_n hc dL_cell_1 rfl rfl ?_
  refine rm_slen hc hX.2.1 hX.2.2.1 hX.2.2.2 dL_cell_2 ?_
  refine rm_icmp_ge (tgt := 12) hc dL_cell_3 (by decide) (fun h => absurd h (fun h2 => absurd ((nI_leI (a := L) (b := i) (by omega) (by omega)).mp h2) (by omega))) (fun _ => ?_)
  refine rm_aload_n hc dL_cell_6 rfl rfl ?_
  refine rm_iload_n hc dL_cell_7 rfl rfl ?_
  refine rm_sld hc hX.2.1 hX.2.2.1 hX.2.2.2 dL_cell_8 (i := i) (by omega) (by omega) rfl ?_
  refine rm_goto (tgt := 20) hc dL_cell_9 (by decide) ?_
  exact rm_iretS hc dL_cell_20 (by decide) (by decide) ⟨rfl, rfl⟩
