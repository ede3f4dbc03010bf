/-! ===== the law: a turn ===== -/
section TURN
variable {p : Program} {l : Launch} {e : Env} {s : State} {m : MethodId} {args : Array Value} {below : List Frame} {meth : Method} {c : Code} {D : va_G} {cy : Nat → ClassId} {ad : Ads} {nc ns : Nat} {Q : State → Prop} {b L : Nat} {xs : Nat → Int32}
set_option maxHeartbeats 4000000 in
set_option maxRecDepth 100000 in
theorem law_turn (hc : CX p s m args meth c code 21 RL ret D cy ad) (hX : XS ad b L xs s) (hfl : l.stackTraces = false) {t T B : Nat} {x : Mem} (hi : I29 x B) (hB : 3 * (B + 4) < 2 ^ 20) (htT : t < T) (hT : 3 * T ≤ L) (hL : L < 2 ^ 20) (hnc : nc + 1 ≤ room_1.cells ∧ ns + 6 ≤ room_1.slots)
    (kk : ∀ x' : Mem, I29 x' (B + 4) → RM p l e room_1 s m args below meth c 21 (AA ad s.heap.size) (GG D cy ad x') (nc + 1) (ns + 6) Q 32 [(0, .ref b), (1, .ref (ad 8 9 0)), (2, .int 1), (3, .int (nI (T))), (4, .int (nI (t + 1)))] []) : RM p l e room_1 s m args below meth c 21 (AA ad s.heap.size) (GG D cy ad x) nc ns Q 38 [(0, .ref b), (1, .ref (ad 8 9 0)), (2, .int 1), (3, .int (nI (T))), (4, .int (nI (t)))] [] := by
  have hI : IJ ad := hc.2.2.2.2.1
  obtain ⟨⟨mm, hc0⟩, hoth, nq, kq, h6, hk6, hn, h8⟩ := id hi
  have hF := hc0.flg
  obtain ⟨nr, hr8, hnr, har⟩ := hc0.1.2.2.2.2.2.2.1
  have hw : x 0 1 = nI mm := hc0.1.2.2.2.2.2.2.2.1
  have hmm : mm ≤ 500 := hc0.1.2.2.2.2.2.2.2.2.1
  obtain ⟨sv, hsv⟩ : ∃ sv, xs (3 * t) = sv := ⟨_, rfl⟩
  obtain ⟨av, hav⟩ : ∃ av, xs (1 + 3 * t) = av := ⟨_, rfl⟩
  obtain ⟨bv, hbv⟩ : ∃ bv, xs (2 + 3 * t) = bv := ⟨_, rfl⟩
  have l4 : lo av 4 < 4 := lo_lt (by omega)
  have l8a : lo av 8 < 8 := lo_lt (by omega)
  have l20 : lo sv 20 < 20 := lo_lt (by omega)
  obtain ⟨nb, hnb9, hnb⟩ := hc0.1.2.2.2.2.1 (lo av 4) l4
  obtain ⟨qn, hqn, eqn⟩ : ∃ q : Nat, q < 65536 ∧ nxtN x 0 (lo av 4) = nI q := nu_lt _ _
  refine rm_iload_n hc dL_law_38 rfl rfl ?_
  refine rm_if_eq (tgt := 522) hc dL_law_39 (by decide) (fun h => absurd h (by decide)) (fun _ => ?_)
  refine rm_aload_n hc dL_law_42 rfl rfl ?_
  refine rm_bipush (v := 7) hc dL_law_43 (by decide) ?_
  refine rm_calliV (As := [.int 7]) (rest := []) hc dL_law_45 (c_X8_count hI x 7 (by decide) (by decide)) mv_L_26 dm_9 rfl rfl (hn := rfl) (hst := rfl) (hw := Nat.le_of_ble_eq_true rfl) (hR := ⟨⟨rfl, rfl⟩, Nat.le_of_ble_eq_true rfl, Nat.le_of_ble_eq_true rfl⟩) (hnc := ⟨by omega, by omega⟩) (fun r_2 y_2 h_2 => ?_)
  obtain ⟨e_2, ey_2⟩ := h_2
  obtain rfl := ey_2.symm
  obtain rfl : r_2 = (cntS x 7) := e_2.trans (cnt_e (E7.rf x))
  refine rm_istore (ls' := [(0, .ref b), (1, .ref (ad 8 9 0)), (2, .int 1), (3, .int (nI (T))), (4, .int (nI (t))), (5, .int (cntS x 7))]) hc dL_law_48 (by decide) rfl ?_
  refine rm_aload_n hc dL_law_50 rfl rfl ?_
  refine rm_iconst (v := 0) hc dL_law_51 (by decide) ?_
  refine rm_calliV (As := [.int 0]) (rest := []) hc dL_law_52 (c_X8_count hI x 0 (by decide) (by decide)) mv_L_26 dm_9 rfl rfl (hn := rfl) (hst := rfl) (hw := Nat.le_of_ble_eq_true rfl) (hR := ⟨⟨rfl, rfl⟩, Nat.le_of_ble_eq_true rfl, Nat.le_of_ble_eq_true rfl⟩) (hnc := ⟨by omega, by omega⟩) (fun r_3 y_3 h_3 => ?_)
  obtain ⟨e_3, ey_3⟩ := h_3
  obtain rfl := ey_3.symm
  obtain rfl : r_3 = (cntS x 0) := e_3.trans (cnt_e (E7.rf x))
  refine rm_istore (ls' := [(0, .ref b), (1, .ref (ad 8 9 0)), (2, .int 1), (3, .int (nI (T))), (4, .int (nI (t))), (5, .int (cntS x 7)), (6, .int (cntS x 0))]) hc dL_law_55 (by decide) rfl ?_
  refine rm_aload_n hc dL_law_57 rfl rfl ?_
  refine rm_iconst (v := 2) hc dL_law_58 (by decide) ?_
  refine rm_calliV (As := [.int 2]) (rest := []) hc dL_law_59 (c_X8_count hI x 2 (by decide) (by decide)) mv_L_26 dm_9 rfl rfl (hn := rfl) (hst := rfl) (hw := Nat.le_of_ble_eq_true rfl) (hR := ⟨⟨rfl, rfl⟩, Nat.le_of_ble_eq_true rfl, Nat.le_of_ble_eq_true rfl⟩) (hnc := ⟨by omega, by omega⟩) (fun r_4 y_4 h_4 => ?_)
  obtain ⟨e_4, ey_4⟩ := h_4
  obtain rfl := ey_4.symm
  obtain rfl : r_4 = (cntS x 2) := e_4.trans (cnt_e (E7.rf x))
  refine rm_istore (ls' := [(0, .ref b), (1, .ref (ad 8 9 0)), (2, .int 1), (3, .int (nI (T))), (4, .int (nI (t))), (5, .int (cntS x 7)), (6, .int (cntS x 0)), (7, .int (cntS x 2))]) hc dL_law_62 (by decide) rfl ?_
  refine rm_aload_n hc dL_law_64 rfl rfl ?_
  refine rm_iconst (v := 3) hc dL_law_65 (by decide) ?_
  refine rm_iload hc dL_law_66 rfl ?_
  refine rm_imul hc dL_law_68 (fun v_5 e_5 => ?_)
  obtain rfl : v_5 = (nI (3 * t)) := e_5.trans (nmul (m := 3) (n := t) (by omega))
  clear e_5
  refine rm_callS (As := [.ref b, .int (nI (3 * t))]) (rest := []) hc hX dL_law_69 (c_L_cell hI x (i := 3 * t) (by omega) (by omega)) ms_L_57 (hn := rfl) (hst := rfl) (hw := Nat.le_of_ble_eq_true rfl) (hR := ⟨⟨rfl, rfl⟩, Nat.le_of_ble_eq_true rfl, Nat.le_of_ble_eq_true rfl⟩) (hnc := ⟨by omega, by omega⟩) (fun r_7 y_7 h_7 => ?_)
  obtain ⟨e_7, ey_7⟩ := h_7
  obtain rfl := ey_7.symm
  obtain rfl : sv = r_7 := (e_7.trans hsv).symm
  refine rm_bipush (v := 20) hc dL_law_72 (by decide) ?_
  refine rm_calliS (As := [.int sv, .int 20]) (rest := []) hc dL_law_74 (c_L_low hI x sv (n := 20) (by omega) (by omega)) ms_L_63 (hn := rfl) (hst := rfl) (hw := Nat.le_of_ble_eq_true rfl) (hR := ⟨⟨rfl, rfl⟩, Nat.le_of_ble_eq_true rfl, Nat.le_of_ble_eq_true rfl⟩) (hnc := ⟨by omega, by omega⟩) (fun r_8 y_8 h_8 => ?_)
  obtain ⟨e_8, ey_8⟩ := h_8
  obtain rfl := ey_8.symm
  obtain rfl : r_8 = nI (lo sv 20) := e_8
  refine rm_istore (ls' := [(0, .ref b), (1, .ref (ad 8 9 0)), (2, .int 1), (3, .int (nI (T))), (4, .int (nI (t))), (5, .int (cntS x 7)), (6, .int (cntS x 0)), (7, .int (cntS x 2)), (8, .int (nI (lo sv 20)))]) hc dL_law_77 (by decide) rfl ?_
  refine rm_aload_n hc dL_law_79 rfl rfl ?_
  refine rm_iconst (v := 3) hc dL_law_80 (by decide) ?_
  refine rm_iload hc dL_law_81 rfl ?_
  refine rm_imul hc dL_law_83 (fun v_9 e_9 => ?_)
  obtain rfl : v_9 = (nI (3 * t)) := e_9.trans (nmul (m := 3) (n := t) (by omega))
  clear e_9
  refine rm_iconst (v := 1) hc dL_law_84 (by decide) ?_
  refine rm_iadd hc dL_law_85 (fun v_10 e_10 => ?_)
  obtain rfl : v_10 = (nI (1 + 3 * t)) := e_10.trans (nadd (m := 3 * t) (n := 1) (by omega))
  clear e_10
  refine rm_callS (As := [.ref b, .int (nI (1 + 3 * t))]) (rest := []) hc hX dL_law_86 (c_L_cell hI x (i := 1 + 3 * t) (by omega) (by omega)) ms_L_57 (hn := rfl) (hst := rfl) (hw := Nat.le_of_ble_eq_true rfl) (hR := ⟨⟨rfl, rfl⟩, Nat.le_of_ble_eq_true rfl, Nat.le_of_ble_eq_true rfl⟩) (hnc := ⟨by omega, by omega⟩) (fun r_12 y_12 h_12 => ?_)
  obtain ⟨e_12, ey_12⟩ := h_12
  obtain rfl := ey_12.symm
  obtain rfl : av = r_12 := (e_12.trans hav).symm
  refine rm_istore (ls' := [(0, .ref b), (1, .ref (ad 8 9 0)), (2, .int 1), (3, .int (nI (T))), (4, .int (nI (t))), (5, .int (cntS x 7)), (6, .int (cntS x 0)), (7, .int (cntS x 2)), (8, .int (nI (lo sv 20))), (9, .int av)]) hc dL_law_89 (by decide) rfl ?_
  refine rm_aload_n hc dL_law_91 rfl rfl ?_
  refine rm_iconst (v := 3) hc dL_law_92 (by decide) ?_
  refine rm_iload hc dL_law_93 rfl ?_
  refine rm_imul hc dL_law_95 (fun v_13 e_13 => ?_)
  obtain rfl : v_13 = (nI (3 * t)) := e_13.trans (nmul (m := 3) (n := t) (by omega))
  clear e_13
  refine rm_iconst (v := 2) hc dL_law_96 (by decide) ?_
  refine rm_iadd hc dL_law_97 (fun v_14 e_14 => ?_)
  obtain rfl : v_14 = (nI (2 + 3 * t)) := e_14.trans (nadd (m := 3 * t) (n := 2) (by omega))
  clear e_14
  refine rm_callS (As := [.ref b, .int (nI (2 + 3 * t))]) (rest := []) hc hX dL_law_98 (c_L_cell hI x (i := 2 + 3 * t) (by omega) (by omega)) ms_L_57 (hn := rfl) (hst := rfl) (hw := Nat.le_of_ble_eq_true rfl) (hR := ⟨⟨rfl, rfl⟩, Nat.le_of_ble_eq_true rfl, Nat.le_of_ble_eq_true rfl⟩) (hnc := ⟨by omega, by omega⟩) (fun r_16 y_16 h_16 => ?_)
  obtain ⟨e_16, ey_16⟩ := h_16
  obtain rfl := ey_16.symm
  obtain rfl : bv = r_16 := (e_16.trans hbv).symm
  refine rm_istore (ls' := [(0, .ref b), (1, .ref (ad 8 9 0)), (2, .int 1), (3, .int (nI (T))), (4, .int (nI (t))), (5, .int (cntS x 7)), (6, .int (cntS x 0)), (7, .int (cntS x 2)), (8, .int (nI (lo sv 20))), (9, .int av), (10, .int bv)]) hc dL_law_101 (by decide) rfl ?_
  refine rm_iload hc dL_law_103 rfl ?_
  refine rm_iconst (v := 4) hc dL_law_105 (by decide) ?_
  refine rm_calliS (As := [.int av, .int 4]) (rest := []) hc dL_law_106 (c_L_low hI x av (n := 4) (by omega) (by omega)) ms_L_63 (hn := rfl) (hst := rfl) (hw := Nat.le_of_ble_eq_true rfl) (hR := ⟨⟨rfl, rfl⟩, Nat.le_of_ble_eq_true rfl, Nat.le_of_ble_eq_true rfl⟩) (hnc := ⟨by omega, by omega⟩) (fun r_17 y_17 h_17 => ?_)
  obtain ⟨e_17, ey_17⟩ := h_17
  obtain rfl := ey_17.symm
  obtain rfl : r_17 = nI (lo av 4) := e_17
  refine rm_istore (ls' := [(0, .ref b), (1, .ref (ad 8 9 0)), (2, .int 1), (3, .int (nI (T))), (4, .int (nI (t))), (5, .int (cntS x 7)), (6, .int (cntS x 0)), (7, .int (cntS x 2)), (8, .int (nI (lo sv 20))), (9, .int av), (10, .int bv), (11, .int (nI (lo av 4)))]) hc dL_law_109 (by decide) rfl ?_
  refine rm_iload hc dL_law_111 rfl ?_
  refine rm_bipush (v := 8) hc dL_law_113 (by decide) ?_
  refine rm_calliS (As := [.int av, .int 8]) (rest := []) hc dL_law_115 (c_L_low hI x av (n := 8) (by omega) (by omega)) ms_L_63 (hn := rfl) (hst := rfl) (hw := Nat.le_of_ble_eq_true rfl) (hR := ⟨⟨rfl, rfl⟩, Nat.le_of_ble_eq_true rfl, Nat.le_of_ble_eq_true rfl⟩) (hnc := ⟨by omega, by omega⟩) (fun r_18 y_18 h_18 => ?_)
  obtain ⟨e_18, ey_18⟩ := h_18
  obtain rfl := ey_18.symm
  obtain rfl : r_18 = nI (lo av 8) := e_18
  refine rm_istore (ls' := [(0, .ref b), (1, .ref (ad 8 9 0)), (2, .int 1), (3, .int (nI (T))), (4, .int (nI (t))), (5, .int (cntS x 7)), (6, .int (cntS x 0)), (7, .int (cntS x 2)), (8, .int (nI (lo sv 20))), (9, .int av), (10, .int bv), (11, .int (nI (lo av 4))), (12, .int (nI (lo av 8)))]) hc dL_law_118 (by decide) rfl ?_
  refine rm_iload hc dL_law_120 rfl ?_
  refine rm_bipush (v := 8) hc dL_law_122 (by decide) ?_
  refine rm_calliS (As := [.int bv, .int 8]) (rest := []) hc dL_law_124 (c_L_low hI x bv (n := 8) (by omega) (by omega)) ms_L_63 (hn := rfl) (hst := rfl) (hw := Nat.le_of_ble_eq_true rfl) (hR := ⟨⟨rfl, rfl⟩, Nat.le_of_ble_eq_true rfl, Nat.le_of_ble_eq_true rfl⟩) (hnc := ⟨by omega, by omega⟩) (fun r_19 y_19 h_19 => ?_)
  obtain ⟨e_19, ey_19⟩ := h_19
  obtain rfl := ey_19.symm
  obtain rfl : r_19 = nI (lo bv 8) := e_19
  refine rm_istore (ls' := [(0, .ref b), (1, .ref (ad 8 9 0)), (2, .int 1), (3, .int (nI (T))), (4, .int (nI (t))), (5, .int (cntS x 7)), (6, .int (cntS x 0)), (7, .int (cntS x 2)), (8, .int (nI (lo sv 20))), (9, .int av), (10, .int bv), (11, .int (nI (lo av 4))), (12, .int (nI (lo av 8))), (13, .int (nI (lo bv 8)))]) hc dL_law_127 (by decide) rfl ?_
  have l3 : lo bv 3 < 3 := lo_lt (by omega)
  have l8b : lo bv 8 < 8 := lo_lt (by omega)
  have key152 : ∀ nm : Int32, (lo sv 20 < 17 → nm = nxtN x 0 (lo av 4)) → (¬ lo sv 20 < 17 → nm = numA x 0 (nI (lo av 8))) → RM p l e room_1 s m args below meth c 21 (AA ad s.heap.size) (GG D cy ad x) nc ns Q 152 [(0, .ref b), (1, .ref (ad 8 9 0)), (2, .int 1), (3, .int (nI (T))), (4, .int (nI (t))), (5, .int (cntS x 7)), (6, .int (cntS x 0)), (7, .int (cntS x 2)), (8, .int (nI (lo sv 20))), (9, .int av), (10, .int bv), (11, .int (nI (lo av 4))), (12, .int (nI (lo av 8))), (13, .int (nI (lo bv 8)))] [.int nm] := by
    intro nm hm1 hm2
    have hnm : (∃ q : Nat, q < 65536 ∧ nm = nI q) ∨ nm = -1 := by
      by_cases h9 : lo sv 20 < 17
      · exact Or.inl ⟨qn, hqn, (hm1 h9).trans eqn⟩
      · rcases num_or hc0 hr8 hnr l8a with ⟨-, -, q9, hq9, e9⟩ | ⟨-, e9⟩
        · exact Or.inl ⟨q9, hq9, (hm2 h9).trans e9⟩
        · exact Or.inr ((hm2 h9).trans e9)
    have hnmx : ¬ 65535 < nm := by
      rcases hnm with ⟨q9, hq9, e9⟩ | e9
      · rw [e9]
        exact nle_nI (a := q9) (b := 65535) (by omega) (by omega)
      · rw [e9]
        decide
    have key337 : ∀ (z y : Mem) (tr : Int32), E7 x z → ACT z mm nr (lo sv 20) av bv B tr y → RM p l e room_1 s m args below meth c 21 (AA ad s.heap.size) (GG D cy ad y) (nc + 1) (ns + 6) Q 337 [(0, .ref b), (1, .ref (ad 8 9 0)), (2, .int 1), (3, .int (nI (T))), (4, .int (nI (t))), (5, .int (cntS x 7)), (6, .int (cntS x 0)), (7, .int (cntS x 2)), (8, .int (nI (lo sv 20))), (10, .int bv), (11, .int (nI (lo av 4))), (14, .int nm), (15, .int (duN x nm (nI (lo bv 8)) mm 3)), (16, .int (nI (nb))), (20, .int tr)] [] := by
      intro z y tr hz hA
      obtain ⟨A1, A2, A3, A4, A5⟩ := hA.e7 hz
      rcases (show (lo sv 20 < 11 ∧ ¬ lo sv 20 = 6) ∨ lo sv 20 = 6 ∨ (11 ≤ lo sv 20 ∧ lo sv 20 ≤ 16) ∨ (lo sv 20 = 17 ∨ lo sv 20 = 18) ∨ lo sv 20 = 19 by omega) with hg | hg | hg | hg | hg
      · --group 0
        refine rm_iload_n hc dL_law_337 rfl rfl ?_
        refine rm_if_eq (tgt := 381) hc dL_law_338 (by decide) (fun h => absurd h (by decide)) (fun _ => ?_)
        refine rm_iload hc dL_law_341 rfl ?_
        refine rm_if_ge (tgt := 377) hc dL_law_343 (by decide) (fun c_21 => ?_) (fun c_21 => ?_)
        · --T
          refine rm_iconst (v := 1) hc dL_law_377 (by decide) ?_
          refine rm_goto (tgt := 382) hc dL_law_378 (by decide) ?_
          refine rm_istore_n (ls' := [(0, .ref b), (1, .ref (ad 8 9 0)), (2, .int 1), (3, .int (nI (T))), (4, .int (nI (t))), (5, .int (cntS x 7)), (6, .int (cntS x 0)), (7, .int (cntS x 2)), (8, .int (nI (lo sv 20))), (10, .int bv), (11, .int (nI (lo av 4))), (14, .int nm), (15, .int (duN x nm (nI (lo bv 8)) mm 3)), (16, .int (nI (nb))), (20, .int tr)]) hc dL_law_382 rfl (by decide) rfl ?_
          refine rm_iload_n hc dL_law_383 rfl rfl ?_
          refine rm_if_eq (tgt := 514) hc dL_law_384 (by decide) (fun h => absurd h (by decide)) (fun _ => ?_)
          refine rm_iload hc dL_law_387 rfl ?_
          refine rm_bipush (v := 11) hc dL_law_389 (by decide) ?_
          refine rm_icmp_lt (tgt := 439) hc dL_law_391 (by decide) (fun _ => ?_) (fun h => absurd ((nI_ltI (a := lo sv 20) (b := 11) (by omega) (by omega)).mpr (by omega)) h)
          refine rm_iload hc dL_law_439 rfl ?_
          refine rm_bipush (v := 11) hc dL_law_441 (by decide) ?_
          refine rm_icmp_lt (tgt := 482) hc dL_law_443 (by decide) (fun _ => ?_) (fun h => absurd ((nI_ltI (a := lo sv 20) (b := 11) (by omega) (by omega)).mpr (by omega)) h)
          refine rm_iload hc dL_law_482 rfl ?_
          refine rm_bipush (v := 6) hc dL_law_484 (by decide) ?_
          refine rm_icmp_ne (tgt := 503) hc dL_law_486 (by decide) (fun _ => ?_) (fun h => absurd h (fun h2 => absurd ((nI_eq (a := lo sv 20) (b := 6) (by omega) (by omega)).mp h2) (by omega)))
          refine rm_aload_n hc dL_law_503 rfl rfl ?_
          obtain ⟨⟨mY, hcY⟩, -⟩ := id A1
          refine rm_calliS (As := [.ref (ad 8 9 0)]) (rest := []) hc dL_law_504 (c_L_yard hI y (mm := mY) (B := B + 4) hcY hB) ms_L_106 (hn := rfl) (hst := rfl) (hw := Nat.le_of_ble_eq_true rfl) (hR := ⟨⟨rfl, rfl⟩, Nat.le_of_ble_eq_true rfl, Nat.le_of_ble_eq_true rfl⟩) (hnc := ⟨by omega, by omega⟩) (fun r_26 y_26 h_26 => ?_)
          obtain ⟨e_26, ey_26⟩ := h_26
          obtain rfl : r_26 = 1 := e_26
          refine rm_if_eq (tgt := 514) hc dL_law_507 (by decide) (fun h => absurd h (by decide)) (fun _ => ?_)
          refine rm_iconst (v := 1) hc dL_law_510 (by decide) ?_
          refine rm_goto (tgt := 515) hc dL_law_511 (by decide) ?_
          refine rm_istore_n (ls' := [(0, .ref b), (1, .ref (ad 8 9 0)), (2, .int 1), (3, .int (nI (T))), (4, .int (nI (t))), (5, .int (cntS x 7)), (6, .int (cntS x 0)), (7, .int (cntS x 2)), (8, .int (nI (lo sv 20))), (10, .int bv), (11, .int (nI (lo av 4))), (14, .int nm), (15, .int (duN x nm (nI (lo bv 8)) mm 3)), (16, .int (nI (nb))), (20, .int tr)]) hc dL_law_515 rfl (by decide) rfl ?_
          refine rm_iinc (v := (nI (t + 1))) (ls' := [(0, .ref b), (1, .ref (ad 8 9 0)), (2, .int 1), (3, .int (nI (T))), (4, .int (nI (t + 1))), (5, .int (cntS x 7)), (6, .int (cntS x 0)), (7, .int (cntS x 2)), (8, .int (nI (lo sv 20))), (10, .int bv), (11, .int (nI (lo av 4))), (14, .int nm), (15, .int (duN x nm (nI (lo bv 8)) mm 3)), (16, .int (nI (nb))), (20, .int tr)]) hc dL_law_516 rfl (nIj (by omega)) (by decide) rfl ?_
          refine rm_goto (tgt := 32) hc dL_law_519 (by decide) ?_
          refine rm_sub [0, 1, 2, 3, 4] rfl ?_
          exact kk _ (A1.e7 ey_26)
        · --F
          have hyz : y = z := A2 (Int32.not_le.mp c_21)
          refine rm_aload_n hc dL_law_346 rfl rfl ?_
          refine rm_bipush (v := 7) hc dL_law_347 (by decide) ?_
          refine rm_calliV (As := [.int 7]) (rest := []) hc dL_law_349 (c_X8_count hI y 7 (by decide) (by decide)) mv_L_26 dm_9 rfl rfl (hn := rfl) (hst := rfl) (hw := Nat.le_of_ble_eq_true rfl) (hR := ⟨⟨rfl, rfl⟩, Nat.le_of_ble_eq_true rfl, Nat.le_of_ble_eq_true rfl⟩) (hnc := ⟨by omega, by omega⟩) (fun r_28 y_28 h_28 => ?_)
          obtain ⟨e_28, ey_28⟩ := h_28
          obtain rfl := ey_28.symm
          obtain rfl : r_28 = (cntS x 7) := e_28.trans (by rw [hyz]; exact cnt_e hz)
          refine rm_iload hc dL_law_352 rfl ?_
          refine rm_icmp_ne (tgt := 381) hc dL_law_354 (by decide) (fun h => absurd rfl h) (fun _ => ?_)
          refine rm_aload_n hc dL_law_357 rfl rfl ?_
          refine rm_iconst (v := 0) hc dL_law_358 (by decide) ?_
          refine rm_calliV (As := [.int 0]) (rest := []) hc dL_law_359 (c_X8_count hI y 0 (by decide) (by decide)) mv_L_26 dm_9 rfl rfl (hn := rfl) (hst := rfl) (hw := Nat.le_of_ble_eq_true rfl) (hR := ⟨⟨rfl, rfl⟩, Nat.le_of_ble_eq_true rfl, Nat.le_of_ble_eq_true rfl⟩) (hnc := ⟨by omega, by omega⟩) (fun r_30 y_30 h_30 => ?_)
          obtain ⟨e_30, ey_30⟩ := h_30
          obtain rfl := ey_30.symm
          obtain rfl : r_30 = (cntS x 0) := e_30.trans (by rw [hyz]; exact cnt_e hz)
          refine rm_iload hc dL_law_362 rfl ?_
          refine rm_icmp_ne (tgt := 381) hc dL_law_364 (by decide) (fun h => absurd rfl h) (fun _ => ?_)
          refine rm_aload_n hc dL_law_367 rfl rfl ?_
          refine rm_iconst (v := 2) hc dL_law_368 (by decide) ?_
          refine rm_calliV (As := [.int 2]) (rest := []) hc dL_law_369 (c_X8_count hI y 2 (by decide) (by decide)) mv_L_26 dm_9 rfl rfl (hn := rfl) (hst := rfl) (hw := Nat.le_of_ble_eq_true rfl) (hR := ⟨⟨rfl, rfl⟩, Nat.le_of_ble_eq_true rfl, Nat.le_of_ble_eq_true rfl⟩) (hnc := ⟨by omega, by omega⟩) (fun r_32 y_32 h_32 => ?_)
          obtain ⟨e_32, ey_32⟩ := h_32
          obtain rfl := ey_32.symm
          obtain rfl : r_32 = (cntS x 2) := e_32.trans (by rw [hyz]; exact cnt_e hz)
          refine rm_iload hc dL_law_372 rfl ?_
          refine rm_icmp_ne (tgt := 381) hc dL_law_374 (by decide) (fun h => absurd rfl h) (fun _ => ?_)
          refine rm_iconst (v := 1) hc dL_law_377 (by decide) ?_
          refine rm_goto (tgt := 382) hc dL_law_378 (by decide) ?_
          refine rm_istore_n (ls' := [(0, .ref b), (1, .ref (ad 8 9 0)), (2, .int 1), (3, .int (nI (T))), (4, .int (nI (t))), (5, .int (cntS x 7)), (6, .int (cntS x 0)), (7, .int (cntS x 2)), (8, .int (nI (lo sv 20))), (10, .int bv), (11, .int (nI (lo av 4))), (14, .int nm), (15, .int (duN x nm (nI (lo bv 8)) mm 3)), (16, .int (nI (nb))), (20, .int tr)]) hc dL_law_382 rfl (by decide) rfl ?_
          refine rm_iload_n hc dL_law_383 rfl rfl ?_
          refine rm_if_eq (tgt := 514) hc dL_law_384 (by decide) (fun h => absurd h (by decide)) (fun _ => ?_)
          refine rm_iload hc dL_law_387 rfl ?_
          refine rm_bipush (v := 11) hc dL_law_389 (by decide) ?_
          refine rm_icmp_lt (tgt := 439) hc dL_law_391 (by decide) (fun _ => ?_) (fun h => absurd ((nI_ltI (a := lo sv 20) (b := 11) (by omega) (by omega)).mpr (by omega)) h)
          refine rm_iload hc dL_law_439 rfl ?_
          refine rm_bipush (v := 11) hc dL_law_441 (by decide) ?_
          refine rm_icmp_lt (tgt := 482) hc dL_law_443 (by decide) (fun _ => ?_) (fun h => absurd ((nI_ltI (a := lo sv 20) (b := 11) (by omega) (by omega)).mpr (by omega)) h)
          refine rm_iload hc dL_law_482 rfl ?_
          refine rm_bipush (v := 6) hc dL_law_484 (by decide) ?_
          refine rm_icmp_ne (tgt := 503) hc dL_law_486 (by decide) (fun _ => ?_) (fun h => absurd h (fun h2 => absurd ((nI_eq (a := lo sv 20) (b := 6) (by omega) (by omega)).mp h2) (by omega)))
          refine rm_aload_n hc dL_law_503 rfl rfl ?_
          obtain ⟨⟨mY, hcY⟩, -⟩ := id A1
          refine rm_calliS (As := [.ref (ad 8 9 0)]) (rest := []) hc dL_law_504 (c_L_yard hI y (mm := mY) (B := B + 4) hcY hB) ms_L_106 (hn := rfl) (hst := rfl) (hw := Nat.le_of_ble_eq_true rfl) (hR := ⟨⟨rfl, rfl⟩, Nat.le_of_ble_eq_true rfl, Nat.le_of_ble_eq_true rfl⟩) (hnc := ⟨by omega, by omega⟩) (fun r_38 y_38 h_38 => ?_)
          obtain ⟨e_38, ey_38⟩ := h_38
          obtain rfl : r_38 = 1 := e_38
          refine rm_if_eq (tgt := 514) hc dL_law_507 (by decide) (fun h => absurd h (by decide)) (fun _ => ?_)
          refine rm_iconst (v := 1) hc dL_law_510 (by decide) ?_
          refine rm_goto (tgt := 515) hc dL_law_511 (by decide) ?_
          refine rm_istore_n (ls' := [(0, .ref b), (1, .ref (ad 8 9 0)), (2, .int 1), (3, .int (nI (T))), (4, .int (nI (t))), (5, .int (cntS x 7)), (6, .int (cntS x 0)), (7, .int (cntS x 2)), (8, .int (nI (lo sv 20))), (10, .int bv), (11, .int (nI (lo av 4))), (14, .int nm), (15, .int (duN x nm (nI (lo bv 8)) mm 3)), (16, .int (nI (nb))), (20, .int tr)]) hc dL_law_515 rfl (by decide) rfl ?_
          refine rm_iinc (v := (nI (t + 1))) (ls' := [(0, .ref b), (1, .ref (ad 8 9 0)), (2, .int 1), (3, .int (nI (T))), (4, .int (nI (t + 1))), (5, .int (cntS x 7)), (6, .int (cntS x 0)), (7, .int (cntS x 2)), (8, .int (nI (lo sv 20))), (10, .int bv), (11, .int (nI (lo av 4))), (14, .int nm), (15, .int (duN x nm (nI (lo bv 8)) mm 3)), (16, .int (nI (nb))), (20, .int tr)]) hc dL_law_516 rfl (nIj (by omega)) (by decide) rfl ?_
          refine rm_goto (tgt := 32) hc dL_law_519 (by decide) ?_
          refine rm_sub [0, 1, 2, 3, 4] rfl ?_
          exact kk _ (A1.e7 ey_38)
      · --group 1
        refine rm_iload_n hc dL_law_337 rfl rfl ?_
        refine rm_if_eq (tgt := 381) hc dL_law_338 (by decide) (fun h => absurd h (by decide)) (fun _ => ?_)
        refine rm_iload hc dL_law_341 rfl ?_
        refine rm_if_ge (tgt := 377) hc dL_law_343 (by decide) (fun c_41 => ?_) (fun c_41 => ?_)
        · --T
          refine rm_iconst (v := 1) hc dL_law_377 (by decide) ?_
          refine rm_goto (tgt := 382) hc dL_law_378 (by decide) ?_
          refine rm_istore_n (ls' := [(0, .ref b), (1, .ref (ad 8 9 0)), (2, .int 1), (3, .int (nI (T))), (4, .int (nI (t))), (5, .int (cntS x 7)), (6, .int (cntS x 0)), (7, .int (cntS x 2)), (8, .int (nI (lo sv 20))), (10, .int bv), (11, .int (nI (lo av 4))), (14, .int nm), (15, .int (duN x nm (nI (lo bv 8)) mm 3)), (16, .int (nI (nb))), (20, .int tr)]) hc dL_law_382 rfl (by decide) rfl ?_
          refine rm_iload_n hc dL_law_383 rfl rfl ?_
          refine rm_if_eq (tgt := 514) hc dL_law_384 (by decide) (fun h => absurd h (by decide)) (fun _ => ?_)
          refine rm_iload hc dL_law_387 rfl ?_
          refine rm_bipush (v := 11) hc dL_law_389 (by decide) ?_
          refine rm_icmp_lt (tgt := 439) hc dL_law_391 (by decide) (fun _ => ?_) (fun h => absurd ((nI_ltI (a := lo sv 20) (b := 11) (by omega) (by omega)).mpr (by omega)) h)
          refine rm_iload hc dL_law_439 rfl ?_
          refine rm_bipush (v := 11) hc dL_law_441 (by decide) ?_
          refine rm_icmp_lt (tgt := 482) hc dL_law_443 (by decide) (fun _ => ?_) (fun h => absurd ((nI_ltI (a := lo sv 20) (b := 11) (by omega) (by omega)).mpr (by omega)) h)
          refine rm_iload hc dL_law_482 rfl ?_
          refine rm_bipush (v := 6) hc dL_law_484 (by decide) ?_
          refine rm_icmp_ne (tgt := 503) hc dL_law_486 (by decide) (fun h => absurd ((nI_eq (a := lo sv 20) (b := 6) (by omega) (by omega)).mpr (by omega)) h) (fun _ => ?_)
          refine rm_aload_n hc dL_law_489 rfl rfl ?_
          refine rm_iload hc dL_law_490 rfl ?_
          refine rm_iconst (v := 3) hc dL_law_492 (by decide) ?_
          refine rm_calliS (As := [.int bv, .int 3]) (rest := [.ref (ad 8 9 0)]) hc dL_law_493 (c_L_low hI y bv (n := 3) (by omega) (by omega)) ms_L_63 (hn := rfl) (hst := rfl) (hw := Nat.le_of_ble_eq_true rfl) (hR := ⟨⟨rfl, rfl⟩, Nat.le_of_ble_eq_true rfl, Nat.le_of_ble_eq_true rfl⟩) (hnc := ⟨by omega, by omega⟩) (fun r_46 y_46 h_46 => ?_)
          obtain ⟨e_46, ey_46⟩ := h_46
          obtain rfl := ey_46.symm
          obtain rfl : r_46 = nI (lo bv 3) := e_46
          refine rm_iconst (v := 1) hc dL_law_496 (by decide) ?_
          refine rm_calliV (As := [.int (nI (lo bv 3)), .int 1]) (rest := []) hc dL_law_497 (c_X8_door hI y (d := lo bv 3) (by omega) 1 (by decide) (by decide)) mv_L_41 dm_9 rfl rfl (hn := rfl) (hst := rfl) (hw := Nat.le_of_ble_eq_true rfl) (hR := ⟨⟨rfl, rfl⟩, Nat.le_of_ble_eq_true rfl, Nat.le_of_ble_eq_true rfl⟩) (hnc := ⟨by omega, by omega⟩) (fun r_47 y_47 h_47 => ?_)
          obtain ⟨e_47, ey_47⟩ := h_47
          obtain rfl := ey_47.symm
          obtain rfl : r_47 = 0 := e_47.trans ((lkD_1 _ _ _).trans (A5 (by omega)))
          refine rm_if_ne (tgt := 514) hc dL_law_500 (by decide) (fun h => absurd h (by decide)) (fun _ => ?_)
          refine rm_aload_n hc dL_law_503 rfl rfl ?_
          obtain ⟨⟨mY, hcY⟩, -⟩ := id A1
          refine rm_calliS (As := [.ref (ad 8 9 0)]) (rest := []) hc dL_law_504 (c_L_yard hI y (mm := mY) (B := B + 4) hcY hB) ms_L_106 (hn := rfl) (hst := rfl) (hw := Nat.le_of_ble_eq_true rfl) (hR := ⟨⟨rfl, rfl⟩, Nat.le_of_ble_eq_true rfl, Nat.le_of_ble_eq_true rfl⟩) (hnc := ⟨by omega, by omega⟩) (fun r_49 y_49 h_49 => ?_)
          obtain ⟨e_49, ey_49⟩ := h_49
          obtain rfl : r_49 = 1 := e_49
          refine rm_if_eq (tgt := 514) hc dL_law_507 (by decide) (fun h => absurd h (by decide)) (fun _ => ?_)
          refine rm_iconst (v := 1) hc dL_law_510 (by decide) ?_
          refine rm_goto (tgt := 515) hc dL_law_511 (by decide) ?_
          refine rm_istore_n (ls' := [(0, .ref b), (1, .ref (ad 8 9 0)), (2, .int 1), (3, .int (nI (T))), (4, .int (nI (t))), (5, .int (cntS x 7)), (6, .int (cntS x 0)), (7, .int (cntS x 2)), (8, .int (nI (lo sv 20))), (10, .int bv), (11, .int (nI (lo av 4))), (14, .int nm), (15, .int (duN x nm (nI (lo bv 8)) mm 3)), (16, .int (nI (nb))), (20, .int tr)]) hc dL_law_515 rfl (by decide) rfl ?_
          refine rm_iinc (v := (nI (t + 1))) (ls' := [(0, .ref b), (1, .ref (ad 8 9 0)), (2, .int 1), (3, .int (nI (T))), (4, .int (nI (t + 1))), (5, .int (cntS x 7)), (6, .int (cntS x 0)), (7, .int (cntS x 2)), (8, .int (nI (lo sv 20))), (10, .int bv), (11, .int (nI (lo av 4))), (14, .int nm), (15, .int (duN x nm (nI (lo bv 8)) mm 3)), (16, .int (nI (nb))), (20, .int tr)]) hc dL_law_516 rfl (nIj (by omega)) (by decide) rfl ?_
          refine rm_goto (tgt := 32) hc dL_law_519 (by decide) ?_
          refine rm_sub [0, 1, 2, 3, 4] rfl ?_
          exact kk _ (A1.e7 ey_49)
        · --F
          have hyz : y = z := A2 (Int32.not_le.mp c_41)
          refine rm_aload_n hc dL_law_346 rfl rfl ?_
          refine rm_bipush (v := 7) hc dL_law_347 (by decide) ?_
          refine rm_calliV (As := [.int 7]) (rest := []) hc dL_law_349 (c_X8_count hI y 7 (by decide) (by decide)) mv_L_26 dm_9 rfl rfl (hn := rfl) (hst := rfl) (hw := Nat.le_of_ble_eq_true rfl) (hR := ⟨⟨rfl, rfl⟩, Nat.le_of_ble_eq_true rfl, Nat.le_of_ble_eq_true rfl⟩) (hnc := ⟨by omega, by omega⟩) (fun r_51 y_51 h_51 => ?_)
          obtain ⟨e_51, ey_51⟩ := h_51
          obtain rfl := ey_51.symm
          obtain rfl : r_51 = (cntS x 7) := e_51.trans (by rw [hyz]; exact cnt_e hz)
          refine rm_iload hc dL_law_352 rfl ?_
          refine rm_icmp_ne (tgt := 381) hc dL_law_354 (by decide) (fun h => absurd rfl h) (fun _ => ?_)
          refine rm_aload_n hc dL_law_357 rfl rfl ?_
          refine rm_iconst (v := 0) hc dL_law_358 (by decide) ?_
          refine rm_calliV (As := [.int 0]) (rest := []) hc dL_law_359 (c_X8_count hI y 0 (by decide) (by decide)) mv_L_26 dm_9 rfl rfl (hn := rfl) (hst := rfl) (hw := Nat.le_of_ble_eq_true rfl) (hR := ⟨⟨rfl, rfl⟩, Nat.le_of_ble_eq_true rfl, Nat.le_of_ble_eq_true rfl⟩) (hnc := ⟨by omega, by omega⟩) (fun r_53 y_53 h_53 => ?_)
          obtain ⟨e_53, ey_53⟩ := h_53
          obtain rfl := ey_53.symm
          obtain rfl : r_53 = (cntS x 0) := e_53.trans (by rw [hyz]; exact cnt_e hz)
          refine rm_iload hc dL_law_362 rfl ?_
          refine rm_icmp_ne (tgt := 381) hc dL_law_364 (by decide) (fun h => absurd rfl h) (fun _ => ?_)
          refine rm_aload_n hc dL_law_367 rfl rfl ?_
          refine rm_iconst (v := 2) hc dL_law_368 (by decide) ?_
          refine rm_calliV (As := [.int 2]) (rest := []) hc dL_law_369 (c_X8_count hI y 2 (by decide) (by decide)) mv_L_26 dm_9 rfl rfl (hn := rfl) (hst := rfl) (hw := Nat.le_of_ble_eq_true rfl) (hR := ⟨⟨rfl, rfl⟩, Nat.le_of_ble_eq_true rfl, Nat.le_of_ble_eq_true rfl⟩) (hnc := ⟨by omega, by omega⟩) (fun r_55 y_55 h_55 => ?_)
          obtain ⟨e_55, ey_55⟩ := h_55
          obtain rfl := ey_55.symm
          obtain rfl : r_55 = (cntS x 2) := e_55.trans (by rw [hyz]; exact cnt_e hz)
          refine rm_iload hc dL_law_372 rfl ?_
          refine rm_icmp_ne (tgt := 381) hc dL_law_374 (by decide) (fun h => absurd rfl h) (fun _ => ?_)
          refine rm_iconst (v := 1) hc dL_law_377 (by decide) ?_
          refine rm_goto (tgt := 382) hc dL_law_378 (by decide) ?_
          refine rm_istore_n (ls' := [(0, .ref b), (1, .ref (ad 8 9 0)), (2, .int 1), (3, .int (nI (T))), (4, .int (nI (t))), (5, .int (cntS x 7)), (6, .int (cntS x 0)), (7, .int (cntS x 2)), (8, .int (nI (lo sv 20))), (10, .int bv), (11, .int (nI (lo av 4))), (14, .int nm), (15, .int (duN x nm (nI (lo bv 8)) mm 3)), (16, .int (nI (nb))), (20, .int tr)]) hc dL_law_382 rfl (by decide) rfl ?_
          refine rm_iload_n hc dL_law_383 rfl rfl ?_
          refine rm_if_eq (tgt := 514) hc dL_law_384 (by decide) (fun h => absurd h (by decide)) (fun _ => ?_)
          refine rm_iload hc dL_law_387 rfl ?_
          refine rm_bipush (v := 11) hc dL_law_389 (by decide) ?_
          refine rm_icmp_lt (tgt := 439) hc dL_law_391 (by decide) (fun _ => ?_) (fun h => absurd ((nI_ltI (a := lo sv 20) (b := 11) (by omega) (by omega)).mpr (by omega)) h)
          refine rm_iload hc dL_law_439 rfl ?_
          refine rm_bipush (v := 11) hc dL_law_441 (by decide) ?_
          refine rm_icmp_lt (tgt := 482) hc dL_law_443 (by decide) (fun _ => ?_) (fun h => absurd ((nI_ltI (a := lo sv 20) (b := 11) (by omega) (by omega)).mpr (by omega)) h)
          refine rm_iload hc dL_law_482 rfl ?_
          refine rm_bipush (v := 6) hc dL_law_484 (by decide) ?_
          refine rm_icmp_ne (tgt := 503) hc dL_law_486 (by decide) (fun h => absurd ((nI_eq (a := lo sv 20) (b := 6) (by omega) (by omega)).mpr (by omega)) h) (fun _ => ?_)
          refine rm_aload_n hc dL_law_489 rfl rfl ?_
          refine rm_iload hc dL_law_490 rfl ?_
          refine rm_iconst (v := 3) hc dL_law_492 (by decide) ?_
          refine rm_calliS (As := [.int bv, .int 3]) (rest := [.ref (ad 8 9 0)]) hc dL_law_493 (c_L_low hI y bv (n := 3) (by omega) (by omega)) ms_L_63 (hn := rfl) (hst := rfl) (hw := Nat.le_of_ble_eq_true rfl) (hR := ⟨⟨rfl, rfl⟩, Nat.le_of_ble_eq_true rfl, Nat.le_of_ble_eq_true rfl⟩) (hnc := ⟨by omega, by omega⟩) (fun r_61 y_61 h_61 => ?_)
          obtain ⟨e_61, ey_61⟩ := h_61
          obtain rfl := ey_61.symm
          obtain rfl : r_61 = nI (lo bv 3) := e_61
          refine rm_iconst (v := 1) hc dL_law_496 (by decide) ?_
          refine rm_calliV (As := [.int (nI (lo bv 3)), .int 1]) (rest := []) hc dL_law_497 (c_X8_door hI y (d := lo bv 3) (by omega) 1 (by decide) (by decide)) mv_L_41 dm_9 rfl rfl (hn := rfl) (hst := rfl) (hw := Nat.le_of_ble_eq_true rfl) (hR := ⟨⟨rfl, rfl⟩, Nat.le_of_ble_eq_true rfl, Nat.le_of_ble_eq_true rfl⟩) (hnc := ⟨by omega, by omega⟩) (fun r_62 y_62 h_62 => ?_)
          obtain ⟨e_62, ey_62⟩ := h_62
          obtain rfl := ey_62.symm
          obtain rfl : r_62 = 0 := e_62.trans ((lkD_1 _ _ _).trans (A5 (by omega)))
          refine rm_if_ne (tgt := 514) hc dL_law_500 (by decide) (fun h => absurd h (by decide)) (fun _ => ?_)
          refine rm_aload_n hc dL_law_503 rfl rfl ?_
          obtain ⟨⟨mY, hcY⟩, -⟩ := id A1
          refine rm_calliS (As := [.ref (ad 8 9 0)]) (rest := []) hc dL_law_504 (c_L_yard hI y (mm := mY) (B := B + 4) hcY hB) ms_L_106 (hn := rfl) (hst := rfl) (hw := Nat.le_of_ble_eq_true rfl) (hR := ⟨⟨rfl, rfl⟩, Nat.le_of_ble_eq_true rfl, Nat.le_of_ble_eq_true rfl⟩) (hnc := ⟨by omega, by omega⟩) (fun r_64 y_64 h_64 => ?_)
          obtain ⟨e_64, ey_64⟩ := h_64
          obtain rfl : r_64 = 1 := e_64
          refine rm_if_eq (tgt := 514) hc dL_law_507 (by decide) (fun h => absurd h (by decide)) (fun _ => ?_)
          refine rm_iconst (v := 1) hc dL_law_510 (by decide) ?_
          refine rm_goto (tgt := 515) hc dL_law_511 (by decide) ?_
          refine rm_istore_n (ls' := [(0, .ref b), (1, .ref (ad 8 9 0)), (2, .int 1), (3, .int (nI (T))), (4, .int (nI (t))), (5, .int (cntS x 7)), (6, .int (cntS x 0)), (7, .int (cntS x 2)), (8, .int (nI (lo sv 20))), (10, .int bv), (11, .int (nI (lo av 4))), (14, .int nm), (15, .int (duN x nm (nI (lo bv 8)) mm 3)), (16, .int (nI (nb))), (20, .int tr)]) hc dL_law_515 rfl (by decide) rfl ?_
          refine rm_iinc (v := (nI (t + 1))) (ls' := [(0, .ref b), (1, .ref (ad 8 9 0)), (2, .int 1), (3, .int (nI (T))), (4, .int (nI (t + 1))), (5, .int (cntS x 7)), (6, .int (cntS x 0)), (7, .int (cntS x 2)), (8, .int (nI (lo sv 20))), (10, .int bv), (11, .int (nI (lo av 4))), (14, .int nm), (15, .int (duN x nm (nI (lo bv 8)) mm 3)), (16, .int (nI (nb))), (20, .int tr)]) hc dL_law_516 rfl (nIj (by omega)) (by decide) rfl ?_
          refine rm_goto (tgt := 32) hc dL_law_519 (by decide) ?_
          refine rm_sub [0, 1, 2, 3, 4] rfl ?_
          exact kk _ (A1.e7 ey_64)
      · --group 2
        refine rm_iload_n hc dL_law_337 rfl rfl ?_
        refine rm_if_eq (tgt := 381) hc dL_law_338 (by decide) (fun h => absurd h (by decide)) (fun _ => ?_)
        refine rm_iload hc dL_law_341 rfl ?_
        refine rm_if_ge (tgt := 377) hc dL_law_343 (by decide) (fun c_67 => ?_) (fun c_67 => ?_)
        · --T
          refine rm_iconst (v := 1) hc dL_law_377 (by decide) ?_
          refine rm_goto (tgt := 382) hc dL_law_378 (by decide) ?_
          refine rm_istore_n (ls' := [(0, .ref b), (1, .ref (ad 8 9 0)), (2, .int 1), (3, .int (nI (T))), (4, .int (nI (t))), (5, .int (cntS x 7)), (6, .int (cntS x 0)), (7, .int (cntS x 2)), (8, .int (nI (lo sv 20))), (10, .int bv), (11, .int (nI (lo av 4))), (14, .int nm), (15, .int (duN x nm (nI (lo bv 8)) mm 3)), (16, .int (nI (nb))), (20, .int tr)]) hc dL_law_382 rfl (by decide) rfl ?_
          refine rm_iload_n hc dL_law_383 rfl rfl ?_
          refine rm_if_eq (tgt := 514) hc dL_law_384 (by decide) (fun h => absurd h (by decide)) (fun _ => ?_)
          refine rm_iload hc dL_law_387 rfl ?_
          refine rm_bipush (v := 11) hc dL_law_389 (by decide) ?_
          refine rm_icmp_lt (tgt := 439) hc dL_law_391 (by decide) (fun h => absurd h (fun h2 => absurd ((nI_ltI (a := lo sv 20) (b := 11) (by omega) (by omega)).mp h2) (by omega))) (fun _ => ?_)
          refine rm_iload hc dL_law_394 rfl ?_
          refine rm_bipush (v := 18) hc dL_law_396 (by decide) ?_
          refine rm_icmp_gt (tgt := 439) hc dL_law_398 (by decide) (fun h => absurd h (fun h2 => absurd ((nI_ltI (a := 18) (b := lo sv 20) (by omega) (by omega)).mp h2) (by omega))) (fun _ => ?_)
          refine rm_iload hc dL_law_401 rfl ?_
          refine rm_iload hc dL_law_403 rfl ?_
          refine rm_bipush (v := 17) hc dL_law_405 (by decide) ?_
          refine rm_icmp_ge (tgt := 425) hc dL_law_407 (by decide) (fun h => absurd h (fun h2 => absurd ((nI_leI (a := 17) (b := lo sv 20) (by omega) (by omega)).mp h2) (by omega))) (fun _ => ?_)
          refine rm_iload hc dL_law_410 rfl ?_
          rcases Nat.eq_zero_or_pos nb with hnz | hnz
          · --
            obtain rfl : tr = -3 := (A3 hg.1 hg.2).1 (by rw [hnb, hnz]; decide)
            refine rm_if_ne (tgt := 420) hc dL_law_412 (by decide) (fun h => absurd ((nI_eq (a := nb) (b := 0) (by omega) (by omega)).mpr (by omega)) h) (fun _ => ?_)
            refine rm_bipush (v := -3) hc dL_law_415 (by decide) ?_
            refine rm_goto (tgt := 436) hc dL_law_417 (by decide) ?_
            refine rm_icmp_ne (tgt := 514) hc dL_law_436 (by decide) (fun h => absurd h (by decide)) (fun _ => ?_)
            refine rm_iload hc dL_law_439 rfl ?_
            refine rm_bipush (v := 11) hc dL_law_441 (by decide) ?_
            refine rm_icmp_lt (tgt := 482) hc dL_law_443 (by decide) (fun h => absurd h (fun h2 => absurd ((nI_ltI (a := lo sv 20) (b := 11) (by omega) (by omega)).mp h2) (by omega))) (fun _ => ?_)
            refine rm_iload hc dL_law_446 rfl ?_
            refine rm_bipush (v := 16) hc dL_law_448 (by decide) ?_
            refine rm_icmp_gt (tgt := 482) hc dL_law_450 (by decide) (fun h => absurd h (fun h2 => absurd ((nI_ltI (a := 16) (b := lo sv 20) (by omega) (by omega)).mp h2) (by omega))) (fun _ => ?_)
            refine rm_iload hc dL_law_453 rfl ?_
            refine rm_if_lt (tgt := 482) hc dL_law_455 (by decide) (fun _ => ?_) (fun h => absurd (by decide) h)
            refine rm_iload hc dL_law_482 rfl ?_
            refine rm_bipush (v := 6) hc dL_law_484 (by decide) ?_
            refine rm_icmp_ne (tgt := 503) hc dL_law_486 (by decide) (fun _ => ?_) (fun h => absurd h (fun h2 => absurd ((nI_eq (a := lo sv 20) (b := 6) (by omega) (by omega)).mp h2) (by omega)))
            refine rm_aload_n hc dL_law_503 rfl rfl ?_
            obtain ⟨⟨mY, hcY⟩, -⟩ := id A1
            refine rm_calliS (As := [.ref (ad 8 9 0)]) (rest := []) hc dL_law_504 (c_L_yard hI y (mm := mY) (B := B + 4) hcY hB) ms_L_106 (hn := rfl) (hst := rfl) (hw := Nat.le_of_ble_eq_true rfl) (hR := ⟨⟨rfl, rfl⟩, Nat.le_of_ble_eq_true rfl, Nat.le_of_ble_eq_true rfl⟩) (hnc := ⟨by omega, by omega⟩) (fun r_78 y_78 h_78 => ?_)
            obtain ⟨e_78, ey_78⟩ := h_78
            obtain rfl : r_78 = 1 := e_78
            refine rm_if_eq (tgt := 514) hc dL_law_507 (by decide) (fun h => absurd h (by decide)) (fun _ => ?_)
            refine rm_iconst (v := 1) hc dL_law_510 (by decide) ?_
            refine rm_goto (tgt := 515) hc dL_law_511 (by decide) ?_
            refine rm_istore_n (ls' := [(0, .ref b), (1, .ref (ad 8 9 0)), (2, .int 1), (3, .int (nI (T))), (4, .int (nI (t))), (5, .int (cntS x 7)), (6, .int (cntS x 0)), (7, .int (cntS x 2)), (8, .int (nI (lo sv 20))), (10, .int bv), (11, .int (nI (lo av 4))), (14, .int nm), (15, .int (duN x nm (nI (lo bv 8)) mm 3)), (16, .int (nI (nb))), (20, .int (-3))]) hc dL_law_515 rfl (by decide) rfl ?_
            refine rm_iinc (v := (nI (t + 1))) (ls' := [(0, .ref b), (1, .ref (ad 8 9 0)), (2, .int 1), (3, .int (nI (T))), (4, .int (nI (t + 1))), (5, .int (cntS x 7)), (6, .int (cntS x 0)), (7, .int (cntS x 2)), (8, .int (nI (lo sv 20))), (10, .int bv), (11, .int (nI (lo av 4))), (14, .int nm), (15, .int (duN x nm (nI (lo bv 8)) mm 3)), (16, .int (nI (nb))), (20, .int (-3))]) hc dL_law_516 rfl (nIj (by omega)) (by decide) rfl ?_
            refine rm_goto (tgt := 32) hc dL_law_519 (by decide) ?_
            refine rm_sub [0, 1, 2, 3, 4] rfl ?_
            exact kk _ (A1.e7 ey_78)
          · --
            have A3b := (A3 hg.1 hg.2).2 (by rw [hnb]; exact fun h9 => absurd ((nI_leI (a := nb) (b := 0) (by omega) (by omega)).mp h9) (by omega))
            have hnm1 : nm = nxtN x 0 (lo av 4) := hm1 (by omega)
            have hnn : ¬ nm < 0 := by rw [hnm1, eqn]; exact nn_nI (by omega)
            refine rm_if_ne (tgt := 420) hc dL_law_412 (by decide) (fun _ => ?_) (fun h => absurd h (fun h2 => absurd ((nI_eq (a := nb) (b := 0) (by omega) (by omega)).mp h2) (by omega)))
            refine rm_iload hc dL_law_420 rfl ?_
            refine rm_goto (tgt := 436) hc dL_law_422 (by decide) ?_
            refine rm_icmp_ne (tgt := 514) hc dL_law_436 (by decide) (fun h => absurd (A3b.1.trans (by rw [du_due hnn, hnm1])) h) (fun _ => ?_)
            refine rm_iload hc dL_law_439 rfl ?_
            refine rm_bipush (v := 11) hc dL_law_441 (by decide) ?_
            refine rm_icmp_lt (tgt := 482) hc dL_law_443 (by decide) (fun h => absurd h (fun h2 => absurd ((nI_ltI (a := lo sv 20) (b := 11) (by omega) (by omega)).mp h2) (by omega))) (fun _ => ?_)
            refine rm_iload hc dL_law_446 rfl ?_
            refine rm_bipush (v := 16) hc dL_law_448 (by decide) ?_
            refine rm_icmp_gt (tgt := 482) hc dL_law_450 (by decide) (fun h => absurd h (fun h2 => absurd ((nI_ltI (a := 16) (b := lo sv 20) (by omega) (by omega)).mp h2) (by omega))) (fun _ => ?_)
            refine rm_iload hc dL_law_453 rfl ?_
            refine rm_if_lt (tgt := 482) hc dL_law_455 (by decide) (fun c_83 => ?_) (fun c_83 => ?_)
            · --T
              refine rm_iload hc dL_law_482 rfl ?_
              refine rm_bipush (v := 6) hc dL_law_484 (by decide) ?_
              refine rm_icmp_ne (tgt := 503) hc dL_law_486 (by decide) (fun _ => ?_) (fun h => absurd h (fun h2 => absurd ((nI_eq (a := lo sv 20) (b := 6) (by omega) (by omega)).mp h2) (by omega)))
              refine rm_aload_n hc dL_law_503 rfl rfl ?_
              obtain ⟨⟨mY, hcY⟩, -⟩ := id A1
              refine rm_calliS (As := [.ref (ad 8 9 0)]) (rest := []) hc dL_law_504 (c_L_yard hI y (mm := mY) (B := B + 4) hcY hB) ms_L_106 (hn := rfl) (hst := rfl) (hw := Nat.le_of_ble_eq_true rfl) (hR := ⟨⟨rfl, rfl⟩, Nat.le_of_ble_eq_true rfl, Nat.le_of_ble_eq_true rfl⟩) (hnc := ⟨by omega, by omega⟩) (fun r_85 y_85 h_85 => ?_)
              obtain ⟨e_85, ey_85⟩ := h_85
              obtain rfl : r_85 = 1 := e_85
              refine rm_if_eq (tgt := 514) hc dL_law_507 (by decide) (fun h => absurd h (by decide)) (fun _ => ?_)
              refine rm_iconst (v := 1) hc dL_law_510 (by decide) ?_
              refine rm_goto (tgt := 515) hc dL_law_511 (by decide) ?_
              refine rm_istore_n (ls' := [(0, .ref b), (1, .ref (ad 8 9 0)), (2, .int 1), (3, .int (nI (T))), (4, .int (nI (t))), (5, .int (cntS x 7)), (6, .int (cntS x 0)), (7, .int (cntS x 2)), (8, .int (nI (lo sv 20))), (10, .int bv), (11, .int (nI (lo av 4))), (14, .int nm), (15, .int (duN x nm (nI (lo bv 8)) mm 3)), (16, .int (nI (nb))), (20, .int tr)]) hc dL_law_515 rfl (by decide) rfl ?_
              refine rm_iinc (v := (nI (t + 1))) (ls' := [(0, .ref b), (1, .ref (ad 8 9 0)), (2, .int 1), (3, .int (nI (T))), (4, .int (nI (t + 1))), (5, .int (cntS x 7)), (6, .int (cntS x 0)), (7, .int (cntS x 2)), (8, .int (nI (lo sv 20))), (10, .int bv), (11, .int (nI (lo av 4))), (14, .int nm), (15, .int (duN x nm (nI (lo bv 8)) mm 3)), (16, .int (nI (nb))), (20, .int tr)]) hc dL_law_516 rfl (nIj (by omega)) (by decide) rfl ?_
              refine rm_goto (tgt := 32) hc dL_law_519 (by decide) ?_
              refine rm_sub [0, 1, 2, 3, 4] rfl ?_
              exact kk _ (A1.e7 ey_85)
            · --F
              refine rm_aload_n hc dL_law_458 rfl rfl ?_
              refine rm_iload hc dL_law_459 rfl ?_
              refine rm_iconst (v := 2) hc dL_law_461 (by decide) ?_
              refine rm_calliV (As := [.int (nI (lo av 4)), .int 2]) (rest := []) hc dL_law_462 (c_X8_fob hI y (j := lo av 4) (by omega) 2 (by decide) (by decide)) mv_L_34 dm_9 rfl rfl (hn := rfl) (hst := rfl) (hw := Nat.le_of_ble_eq_true rfl) (hR := ⟨⟨rfl, rfl⟩, Nat.le_of_ble_eq_true rfl, Nat.le_of_ble_eq_true rfl⟩) (hnc := ⟨by omega, by omega⟩) (fun r_87 y_87 h_87 => ?_)
              obtain ⟨e_87, ey_87⟩ := h_87
              obtain rfl := ey_87.symm
              replace e_87 := e_87.trans (lkF_2 _ _)
              refine rm_iload hc dL_law_465 rfl ?_
              refine rm_iconst (v := 1) hc dL_law_467 (by decide) ?_
              refine rm_isub hc dL_law_468 (fun v_88 e_88 => ?_)
              refine rm_icmp_ne (tgt := 514) hc dL_law_469 (by decide) (fun h => absurd (e_87.trans (A3b.2.1.trans (by rw [hnb]; exact e_88.symm))) h) (fun _ => ?_)
              refine rm_aload_n hc dL_law_472 rfl rfl ?_
              refine rm_iconst (v := 0) hc dL_law_473 (by decide) ?_
              refine rm_calliV (As := [.int 0]) (rest := []) hc dL_law_474 (c_X8_air hI y 0 (by decide)) mv_L_30 dm_9 rfl rfl (hn := rfl) (hst := rfl) (hw := Nat.le_of_ble_eq_true rfl) (hR := ⟨⟨rfl, rfl⟩, Nat.le_of_ble_eq_true rfl, Nat.le_of_ble_eq_true rfl⟩) (hnc := ⟨by omega, by omega⟩) (fun r_90 y_90 h_90 => ?_)
              obtain ⟨e_90, ey_90⟩ := h_90
              obtain rfl := ey_90.symm
              replace e_90 : r_90 = nm := e_90.trans (A3b.2.2.trans hnm1.symm)
              refine rm_iload hc dL_law_477 rfl ?_
              refine rm_icmp_ne (tgt := 514) hc dL_law_479 (by decide) (fun h => absurd e_90 h) (fun _ => ?_)
              refine rm_iload hc dL_law_482 rfl ?_
              refine rm_bipush (v := 6) hc dL_law_484 (by decide) ?_
              refine rm_icmp_ne (tgt := 503) hc dL_law_486 (by decide) (fun _ => ?_) (fun h => absurd h (fun h2 => absurd ((nI_eq (a := lo sv 20) (b := 6) (by omega) (by omega)).mp h2) (by omega)))
              refine rm_aload_n hc dL_law_503 rfl rfl ?_
              obtain ⟨⟨mY, hcY⟩, -⟩ := id A1
              refine rm_calliS (As := [.ref (ad 8 9 0)]) (rest := []) hc dL_law_504 (c_L_yard hI y (mm := mY) (B := B + 4) hcY hB) ms_L_106 (hn := rfl) (hst := rfl) (hw := Nat.le_of_ble_eq_true rfl) (hR := ⟨⟨rfl, rfl⟩, Nat.le_of_ble_eq_true rfl, Nat.le_of_ble_eq_true rfl⟩) (hnc := ⟨by omega, by omega⟩) (fun r_93 y_93 h_93 => ?_)
              obtain ⟨e_93, ey_93⟩ := h_93
              obtain rfl : r_93 = 1 := e_93
              refine rm_if_eq (tgt := 514) hc dL_law_507 (by decide) (fun h => absurd h (by decide)) (fun _ => ?_)
              refine rm_iconst (v := 1) hc dL_law_510 (by decide) ?_
              refine rm_goto (tgt := 515) hc dL_law_511 (by decide) ?_
              refine rm_istore_n (ls' := [(0, .ref b), (1, .ref (ad 8 9 0)), (2, .int 1), (3, .int (nI (T))), (4, .int (nI (t))), (5, .int (cntS x 7)), (6, .int (cntS x 0)), (7, .int (cntS x 2)), (8, .int (nI (lo sv 20))), (10, .int bv), (11, .int (nI (lo av 4))), (14, .int nm), (15, .int (duN x nm (nI (lo bv 8)) mm 3)), (16, .int (nI (nb))), (20, .int tr)]) hc dL_law_515 rfl (by decide) rfl ?_
              refine rm_iinc (v := (nI (t + 1))) (ls' := [(0, .ref b), (1, .ref (ad 8 9 0)), (2, .int 1), (3, .int (nI (T))), (4, .int (nI (t + 1))), (5, .int (cntS x 7)), (6, .int (cntS x 0)), (7, .int (cntS x 2)), (8, .int (nI (lo sv 20))), (10, .int bv), (11, .int (nI (lo av 4))), (14, .int nm), (15, .int (duN x nm (nI (lo bv 8)) mm 3)), (16, .int (nI (nb))), (20, .int tr)]) hc dL_law_516 rfl (nIj (by omega)) (by decide) rfl ?_
              refine rm_goto (tgt := 32) hc dL_law_519 (by decide) ?_
              refine rm_sub [0, 1, 2, 3, 4] rfl ?_
              exact kk _ (A1.e7 ey_93)
        · --F
          have hyz : y = z := A2 (Int32.not_le.mp c_67)
          refine rm_aload_n hc dL_law_346 rfl rfl ?_
          refine rm_bipush (v := 7) hc dL_law_347 (by decide) ?_
          refine rm_calliV (As := [.int 7]) (rest := []) hc dL_law_349 (c_X8_count hI y 7 (by decide) (by decide)) mv_L_26 dm_9 rfl rfl (hn := rfl) (hst := rfl) (hw := Nat.le_of_ble_eq_true rfl) (hR := ⟨⟨rfl, rfl⟩, Nat.le_of_ble_eq_true rfl, Nat.le_of_ble_eq_true rfl⟩) (hnc := ⟨by omega, by omega⟩) (fun r_95 y_95 h_95 => ?_)
          obtain ⟨e_95, ey_95⟩ := h_95
          obtain rfl := ey_95.symm
          obtain rfl : r_95 = (cntS x 7) := e_95.trans (by rw [hyz]; exact cnt_e hz)
          refine rm_iload hc dL_law_352 rfl ?_
          refine rm_icmp_ne (tgt := 381) hc dL_law_354 (by decide) (fun h => absurd rfl h) (fun _ => ?_)
          refine rm_aload_n hc dL_law_357 rfl rfl ?_
          refine rm_iconst (v := 0) hc dL_law_358 (by decide) ?_
          refine rm_calliV (As := [.int 0]) (rest := []) hc dL_law_359 (c_X8_count hI y 0 (by decide) (by decide)) mv_L_26 dm_9 rfl rfl (hn := rfl) (hst := rfl) (hw := Nat.le_of_ble_eq_true rfl) (hR := ⟨⟨rfl, rfl⟩, Nat.le_of_ble_eq_true rfl, Nat.le_of_ble_eq_true rfl⟩) (hnc := ⟨by omega, by omega⟩) (fun r_97 y_97 h_97 => ?_)
          obtain ⟨e_97, ey_97⟩ := h_97
          obtain rfl := ey_97.symm
          obtain rfl : r_97 = (cntS x 0) := e_97.trans (by rw [hyz]; exact cnt_e hz)
          refine rm_iload hc dL_law_362 rfl ?_
          refine rm_icmp_ne (tgt := 381) hc dL_law_364 (by decide) (fun h => absurd rfl h) (fun _ => ?_)
          refine rm_aload_n hc dL_law_367 rfl rfl ?_
          refine rm_iconst (v := 2) hc dL_law_368 (by decide) ?_
          refine rm_calliV (As := [.int 2]) (rest := []) hc dL_law_369 (c_X8_count hI y 2 (by decide) (by decide)) mv_L_26 dm_9 rfl rfl (hn := rfl) (hst := rfl) (hw := Nat.le_of_ble_eq_true rfl) (hR := ⟨⟨rfl, rfl⟩, Nat.le_of_ble_eq_true rfl, Nat.le_of_ble_eq_true rfl⟩) (hnc := ⟨by omega, by omega⟩) (fun r_99 y_99 h_99 => ?_)
          obtain ⟨e_99, ey_99⟩ := h_99
          obtain rfl := ey_99.symm
          obtain rfl : r_99 = (cntS x 2) := e_99.trans (by rw [hyz]; exact cnt_e hz)
          refine rm_iload hc dL_law_372 rfl ?_
          refine rm_icmp_ne (tgt := 381) hc dL_law_374 (by decide) (fun h => absurd rfl h) (fun _ => ?_)
          refine rm_iconst (v := 1) hc dL_law_377 (by decide) ?_
          refine rm_goto (tgt := 382) hc dL_law_378 (by decide) ?_
          refine rm_istore_n (ls' := [(0, .ref b), (1, .ref (ad 8 9 0)), (2, .int 1), (3, .int (nI (T))), (4, .int (nI (t))), (5, .int (cntS x 7)), (6, .int (cntS x 0)), (7, .int (cntS x 2)), (8, .int (nI (lo sv 20))), (10, .int bv), (11, .int (nI (lo av 4))), (14, .int nm), (15, .int (duN x nm (nI (lo bv 8)) mm 3)), (16, .int (nI (nb))), (20, .int tr)]) hc dL_law_382 rfl (by decide) rfl ?_
          refine rm_iload_n hc dL_law_383 rfl rfl ?_
          refine rm_if_eq (tgt := 514) hc dL_law_384 (by decide) (fun h => absurd h (by decide)) (fun _ => ?_)
          refine rm_iload hc dL_law_387 rfl ?_
          refine rm_bipush (v := 11) hc dL_law_389 (by decide) ?_
          refine rm_icmp_lt (tgt := 439) hc dL_law_391 (by decide) (fun h => absurd h (fun h2 => absurd ((nI_ltI (a := lo sv 20) (b := 11) (by omega) (by omega)).mp h2) (by omega))) (fun _ => ?_)
          refine rm_iload hc dL_law_394 rfl ?_
          refine rm_bipush (v := 18) hc dL_law_396 (by decide) ?_
          refine rm_icmp_gt (tgt := 439) hc dL_law_398 (by decide) (fun h => absurd h (fun h2 => absurd ((nI_ltI (a := 18) (b := lo sv 20) (by omega) (by omega)).mp h2) (by omega))) (fun _ => ?_)
          refine rm_iload hc dL_law_401 rfl ?_
          refine rm_iload hc dL_law_403 rfl ?_
          refine rm_bipush (v := 17) hc dL_law_405 (by decide) ?_
          refine rm_icmp_ge (tgt := 425) hc dL_law_407 (by decide) (fun h => absurd h (fun h2 => absurd ((nI_leI (a := 17) (b := lo sv 20) (by omega) (by omega)).mp h2) (by omega))) (fun _ => ?_)
          refine rm_iload hc dL_law_410 rfl ?_
          rcases Nat.eq_zero_or_pos nb with hnz | hnz
          · --
            obtain rfl : tr = -3 := (A3 hg.1 hg.2).1 (by rw [hnb, hnz]; decide)
            refine rm_if_ne (tgt := 420) hc dL_law_412 (by decide) (fun h => absurd ((nI_eq (a := nb) (b := 0) (by omega) (by omega)).mpr (by omega)) h) (fun _ => ?_)
            refine rm_bipush (v := -3) hc dL_law_415 (by decide) ?_
            refine rm_goto (tgt := 436) hc dL_law_417 (by decide) ?_
            refine rm_icmp_ne (tgt := 514) hc dL_law_436 (by decide) (fun h => absurd h (by decide)) (fun _ => ?_)
            refine rm_iload hc dL_law_439 rfl ?_
            refine rm_bipush (v := 11) hc dL_law_441 (by decide) ?_
            refine rm_icmp_lt (tgt := 482) hc dL_law_443 (by decide) (fun h => absurd h (fun h2 => absurd ((nI_ltI (a := lo sv 20) (b := 11) (by omega) (by omega)).mp h2) (by omega))) (fun _ => ?_)
            refine rm_iload hc dL_law_446 rfl ?_
            refine rm_bipush (v := 16) hc dL_law_448 (by decide) ?_
            refine rm_icmp_gt (tgt := 482) hc dL_law_450 (by decide) (fun h => absurd h (fun h2 => absurd ((nI_ltI (a := 16) (b := lo sv 20) (by omega) (by omega)).mp h2) (by omega))) (fun _ => ?_)
            refine rm_iload hc dL_law_453 rfl ?_
            refine rm_if_lt (tgt := 482) hc dL_law_455 (by decide) (fun _ => ?_) (fun h => absurd (by decide) h)
            refine rm_iload hc dL_law_482 rfl ?_
            refine rm_bipush (v := 6) hc dL_law_484 (by decide) ?_
            refine rm_icmp_ne (tgt := 503) hc dL_law_486 (by decide) (fun _ => ?_) (fun h => absurd h (fun h2 => absurd ((nI_eq (a := lo sv 20) (b := 6) (by omega) (by omega)).mp h2) (by omega)))
            refine rm_aload_n hc dL_law_503 rfl rfl ?_
            obtain ⟨⟨mY, hcY⟩, -⟩ := id A1
            refine rm_calliS (As := [.ref (ad 8 9 0)]) (rest := []) hc dL_law_504 (c_L_yard hI y (mm := mY) (B := B + 4) hcY hB) ms_L_106 (hn := rfl) (hst := rfl) (hw := Nat.le_of_ble_eq_true rfl) (hR := ⟨⟨rfl, rfl⟩, Nat.le_of_ble_eq_true rfl, Nat.le_of_ble_eq_true rfl⟩) (hnc := ⟨by omega, by omega⟩) (fun r_111 y_111 h_111 => ?_)
            obtain ⟨e_111, ey_111⟩ := h_111
            obtain rfl : r_111 = 1 := e_111
            refine rm_if_eq (tgt := 514) hc dL_law_507 (by decide) (fun h => absurd h (by decide)) (fun _ => ?_)
            refine rm_iconst (v := 1) hc dL_law_510 (by decide) ?_
            refine rm_goto (tgt := 515) hc dL_law_511 (by decide) ?_
            refine rm_istore_n (ls' := [(0, .ref b), (1, .ref (ad 8 9 0)), (2, .int 1), (3, .int (nI (T))), (4, .int (nI (t))), (5, .int (cntS x 7)), (6, .int (cntS x 0)), (7, .int (cntS x 2)), (8, .int (nI (lo sv 20))), (10, .int bv), (11, .int (nI (lo av 4))), (14, .int nm), (15, .int (duN x nm (nI (lo bv 8)) mm 3)), (16, .int (nI (nb))), (20, .int (-3))]) hc dL_law_515 rfl (by decide) rfl ?_
            refine rm_iinc (v := (nI (t + 1))) (ls' := [(0, .ref b), (1, .ref (ad 8 9 0)), (2, .int 1), (3, .int (nI (T))), (4, .int (nI (t + 1))), (5, .int (cntS x 7)), (6, .int (cntS x 0)), (7, .int (cntS x 2)), (8, .int (nI (lo sv 20))), (10, .int bv), (11, .int (nI (lo av 4))), (14, .int nm), (15, .int (duN x nm (nI (lo bv 8)) mm 3)), (16, .int (nI (nb))), (20, .int (-3))]) hc dL_law_516 rfl (nIj (by omega)) (by decide) rfl ?_
            refine rm_goto (tgt := 32) hc dL_law_519 (by decide) ?_
            refine rm_sub [0, 1, 2, 3, 4] rfl ?_
            exact kk _ (A1.e7 ey_111)
          · --
            have A3b := (A3 hg.1 hg.2).2 (by rw [hnb]; exact fun h9 => absurd ((nI_leI (a := nb) (b := 0) (by omega) (by omega)).mp h9) (by omega))
            have hnm1 : nm = nxtN x 0 (lo av 4) := hm1 (by omega)
            have hnn : ¬ nm < 0 := by rw [hnm1, eqn]; exact nn_nI (by omega)
            refine rm_if_ne (tgt := 420) hc dL_law_412 (by decide) (fun _ => ?_) (fun h => absurd h (fun h2 => absurd ((nI_eq (a := nb) (b := 0) (by omega) (by omega)).mp h2) (by omega)))
            refine rm_iload hc dL_law_420 rfl ?_
            refine rm_goto (tgt := 436) hc dL_law_422 (by decide) ?_
            refine rm_icmp_ne (tgt := 514) hc dL_law_436 (by decide) (fun h => absurd (A3b.1.trans (by rw [du_due hnn, hnm1])) h) (fun _ => ?_)
            refine rm_iload hc dL_law_439 rfl ?_
            refine rm_bipush (v := 11) hc dL_law_441 (by decide) ?_
            refine rm_icmp_lt (tgt := 482) hc dL_law_443 (by decide) (fun h => absurd h (fun h2 => absurd ((nI_ltI (a := lo sv 20) (b := 11) (by omega) (by omega)).mp h2) (by omega))) (fun _ => ?_)
            refine rm_iload hc dL_law_446 rfl ?_
            refine rm_bipush (v := 16) hc dL_law_448 (by decide) ?_
            refine rm_icmp_gt (tgt := 482) hc dL_law_450 (by decide) (fun h => absurd h (fun h2 => absurd ((nI_ltI (a := 16) (b := lo sv 20) (by omega) (by omega)).mp h2) (by omega))) (fun _ => ?_)
            refine rm_iload hc dL_law_453 rfl ?_
            refine rm_if_lt (tgt := 482) hc dL_law_455 (by decide) (fun c_116 => ?_) (fun c_116 => ?_)
            · --T
              refine rm_iload hc dL_law_482 rfl ?_
              refine rm_bipush (v := 6) hc dL_law_484 (by decide) ?_
              refine rm_icmp_ne (tgt := 503) hc dL_law_486 (by decide) (fun _ => ?_) (fun h => absurd h (fun h2 => absurd ((nI_eq (a := lo sv 20) (b := 6) (by omega) (by omega)).mp h2) (by omega)))
              refine rm_aload_n hc dL_law_503 rfl rfl ?_
              obtain ⟨⟨mY, hcY⟩, -⟩ := id A1
              refine rm_calliS (As := [.ref (ad 8 9 0)]) (rest := []) hc dL_law_504 (c_L_yard hI y (mm := mY) (B := B + 4) hcY hB) ms_L_106 (hn := rfl) (hst := rfl) (hw := Nat.le_of_ble_eq_true rfl) (hR := ⟨⟨rfl, rfl⟩, Nat.le_of_ble_eq_true rfl, Nat.le_of_ble_eq_true rfl⟩) (hnc := ⟨by omega, by omega⟩) (fun r_118 y_118 h_118 => ?_)
              obtain ⟨e_118, ey_118⟩ := h_118
              obtain rfl : r_118 = 1 := e_118
              refine rm_if_eq (tgt := 514) hc dL_law_507 (by decide) (fun h => absurd h (by decide)) (fun _ => ?_)
              refine rm_iconst (v := 1) hc dL_law_510 (by decide) ?_
              refine rm_goto (tgt := 515) hc dL_law_511 (by decide) ?_
              refine rm_istore_n (ls' := [(0, .ref b), (1, .ref (ad 8 9 0)), (2, .int 1), (3, .int (nI (T))), (4, .int (nI (t))), (5, .int (cntS x 7)), (6, .int (cntS x 0)), (7, .int (cntS x 2)), (8, .int (nI (lo sv 20))), (10, .int bv), (11, .int (nI (lo av 4))), (14, .int nm), (15, .int (duN x nm (nI (lo bv 8)) mm 3)), (16, .int (nI (nb))), (20, .int tr)]) hc dL_law_515 rfl (by decide) rfl ?_
              refine rm_iinc (v := (nI (t + 1))) (ls' := [(0, .ref b), (1, .ref (ad 8 9 0)), (2, .int 1), (3, .int (nI (T))), (4, .int (nI (t + 1))), (5, .int (cntS x 7)), (6, .int (cntS x 0)), (7, .int (cntS x 2)), (8, .int (nI (lo sv 20))), (10, .int bv), (11, .int (nI (lo av 4))), (14, .int nm), (15, .int (duN x nm (nI (lo bv 8)) mm 3)), (16, .int (nI (nb))), (20, .int tr)]) hc dL_law_516 rfl (nIj (by omega)) (by decide) rfl ?_
              refine rm_goto (tgt := 32) hc dL_law_519 (by decide) ?_
              refine rm_sub [0, 1, 2, 3, 4] rfl ?_
              exact kk _ (A1.e7 ey_118)
            · --F
              refine rm_aload_n hc dL_law_458 rfl rfl ?_
              refine rm_iload hc dL_law_459 rfl ?_
              refine rm_iconst (v := 2) hc dL_law_461 (by decide) ?_
              refine rm_calliV (As := [.int (nI (lo av 4)), .int 2]) (rest := []) hc dL_law_462 (c_X8_fob hI y (j := lo av 4) (by omega) 2 (by decide) (by decide)) mv_L_34 dm_9 rfl rfl (hn := rfl) (hst := rfl) (hw := Nat.le_of_ble_eq_true rfl) (hR := ⟨⟨rfl, rfl⟩, Nat.le_of_ble_eq_true rfl, Nat.le_of_ble_eq_true rfl⟩) (hnc := ⟨by omega, by omega⟩) (fun r_120 y_120 h_120 => ?_)
              obtain ⟨e_120, ey_120⟩ := h_120
              obtain rfl := ey_120.symm
              replace e_120 := e_120.trans (lkF_2 _ _)
              refine rm_iload hc dL_law_465 rfl ?_
              refine rm_iconst (v := 1) hc dL_law_467 (by decide) ?_
              refine rm_isub hc dL_law_468 (fun v_121 e_121 => ?_)
              refine rm_icmp_ne (tgt := 514) hc dL_law_469 (by decide) (fun h => absurd (e_120.trans (A3b.2.1.trans (by rw [hnb]; exact e_121.symm))) h) (fun _ => ?_)
              refine rm_aload_n hc dL_law_472 rfl rfl ?_
              refine rm_iconst (v := 0) hc dL_law_473 (by decide) ?_
              refine rm_calliV (As := [.int 0]) (rest := []) hc dL_law_474 (c_X8_air hI y 0 (by decide)) mv_L_30 dm_9 rfl rfl (hn := rfl) (hst := rfl) (hw := Nat.le_of_ble_eq_true rfl) (hR := ⟨⟨rfl, rfl⟩, Nat.le_of_ble_eq_true rfl, Nat.le_of_ble_eq_true rfl⟩) (hnc := ⟨by omega, by omega⟩) (fun r_123 y_123 h_123 => ?_)
              obtain ⟨e_123, ey_123⟩ := h_123
              obtain rfl := ey_123.symm
              replace e_123 : r_123 = nm := e_123.trans (A3b.2.2.trans hnm1.symm)
              refine rm_iload hc dL_law_477 rfl ?_
              refine rm_icmp_ne (tgt := 514) hc dL_law_479 (by decide) (fun h => absurd e_123 h) (fun _ => ?_)
              refine rm_iload hc dL_law_482 rfl ?_
              refine rm_bipush (v := 6) hc dL_law_484 (by decide) ?_
              refine rm_icmp_ne (tgt := 503) hc dL_law_486 (by decide) (fun _ => ?_) (fun h => absurd h (fun h2 => absurd ((nI_eq (a := lo sv 20) (b := 6) (by omega) (by omega)).mp h2) (by omega)))
              refine rm_aload_n hc dL_law_503 rfl rfl ?_
              obtain ⟨⟨mY, hcY⟩, -⟩ := id A1
              refine rm_calliS (As := [.ref (ad 8 9 0)]) (rest := []) hc dL_law_504 (c_L_yard hI y (mm := mY) (B := B + 4) hcY hB) ms_L_106 (hn := rfl) (hst := rfl) (hw := Nat.le_of_ble_eq_true rfl) (hR := ⟨⟨rfl, rfl⟩, Nat.le_of_ble_eq_true rfl, Nat.le_of_ble_eq_true rfl⟩) (hnc := ⟨by omega, by omega⟩) (fun r_126 y_126 h_126 => ?_)
              obtain ⟨e_126, ey_126⟩ := h_126
              obtain rfl : r_126 = 1 := e_126
              refine rm_if_eq (tgt := 514) hc dL_law_507 (by decide) (fun h => absurd h (by decide)) (fun _ => ?_)
              refine rm_iconst (v := 1) hc dL_law_510 (by decide) ?_
              refine rm_goto (tgt := 515) hc dL_law_511 (by decide) ?_
              refine rm_istore_n (ls' := [(0, .ref b), (1, .ref (ad 8 9 0)), (2, .int 1), (3, .int (nI (T))), (4, .int (nI (t))), (5, .int (cntS x 7)), (6, .int (cntS x 0)), (7, .int (cntS x 2)), (8, .int (nI (lo sv 20))), (10, .int bv), (11, .int (nI (lo av 4))), (14, .int nm), (15, .int (duN x nm (nI (lo bv 8)) mm 3)), (16, .int (nI (nb))), (20, .int tr)]) hc dL_law_515 rfl (by decide) rfl ?_
              refine rm_iinc (v := (nI (t + 1))) (ls' := [(0, .ref b), (1, .ref (ad 8 9 0)), (2, .int 1), (3, .int (nI (T))), (4, .int (nI (t + 1))), (5, .int (cntS x 7)), (6, .int (cntS x 0)), (7, .int (cntS x 2)), (8, .int (nI (lo sv 20))), (10, .int bv), (11, .int (nI (lo av 4))), (14, .int nm), (15, .int (duN x nm (nI (lo bv 8)) mm 3)), (16, .int (nI (nb))), (20, .int tr)]) hc dL_law_516 rfl (nIj (by omega)) (by decide) rfl ?_
              refine rm_goto (tgt := 32) hc dL_law_519 (by decide) ?_
              refine rm_sub [0, 1, 2, 3, 4] rfl ?_
              exact kk _ (A1.e7 ey_126)
      · --group 3
        refine rm_iload_n hc dL_law_337 rfl rfl ?_
        refine rm_if_eq (tgt := 381) hc dL_law_338 (by decide) (fun h => absurd h (by decide)) (fun _ => ?_)
        refine rm_iload hc dL_law_341 rfl ?_
        refine rm_if_ge (tgt := 377) hc dL_law_343 (by decide) (fun c_129 => ?_) (fun c_129 => ?_)
        · --T
          refine rm_iconst (v := 1) hc dL_law_377 (by decide) ?_
          refine rm_goto (tgt := 382) hc dL_law_378 (by decide) ?_
          refine rm_istore_n (ls' := [(0, .ref b), (1, .ref (ad 8 9 0)), (2, .int 1), (3, .int (nI (T))), (4, .int (nI (t))), (5, .int (cntS x 7)), (6, .int (cntS x 0)), (7, .int (cntS x 2)), (8, .int (nI (lo sv 20))), (10, .int bv), (11, .int (nI (lo av 4))), (14, .int nm), (15, .int (duN x nm (nI (lo bv 8)) mm 3)), (16, .int (nI (nb))), (20, .int tr)]) hc dL_law_382 rfl (by decide) rfl ?_
          refine rm_iload_n hc dL_law_383 rfl rfl ?_
          refine rm_if_eq (tgt := 514) hc dL_law_384 (by decide) (fun h => absurd h (by decide)) (fun _ => ?_)
          refine rm_iload hc dL_law_387 rfl ?_
          refine rm_bipush (v := 11) hc dL_law_389 (by decide) ?_
          refine rm_icmp_lt (tgt := 439) hc dL_law_391 (by decide) (fun h => absurd h (fun h2 => absurd ((nI_ltI (a := lo sv 20) (b := 11) (by omega) (by omega)).mp h2) (by omega))) (fun _ => ?_)
          refine rm_iload hc dL_law_394 rfl ?_
          refine rm_bipush (v := 18) hc dL_law_396 (by decide) ?_
          refine rm_icmp_gt (tgt := 439) hc dL_law_398 (by decide) (fun h => absurd h (fun h2 => absurd ((nI_ltI (a := 18) (b := lo sv 20) (by omega) (by omega)).mp h2) (by omega))) (fun _ => ?_)
          refine rm_iload hc dL_law_401 rfl ?_
          refine rm_iload hc dL_law_403 rfl ?_
          refine rm_bipush (v := 17) hc dL_law_405 (by decide) ?_
          refine rm_icmp_ge (tgt := 425) hc dL_law_407 (by decide) (fun _ => ?_) (fun h => absurd ((nI_leI (a := 17) (b := lo sv 20) (by omega) (by omega)).mpr (by omega)) h)
          refine rm_iload hc dL_law_425 rfl ?_
          rcases num_or hc0 hr8 hnr l8a with ⟨hpl, enm, q9, hq9, enq⟩ | ⟨hpl, enm⟩
          · --
            have hnv : nm = nI q9 := (hm2 (by omega)).trans enq
            have hnm2 : nm = x 0 (6 + lo av 8) := (hm2 (by omega)).trans enm
            have hnn : ¬ nm < 0 := by rw [hnv]; exact nn_nI (by omega)
            refine rm_if_ge (tgt := 434) hc dL_law_427 (by decide) (fun _ => ?_) (fun h => absurd (Int32.not_lt.mp hnn) h)
            refine rm_iload hc dL_law_434 rfl ?_
            refine rm_icmp_ne (tgt := 514) hc dL_law_436 (by decide) (fun h => absurd ((A4 hg).trans ((if_pos hpl).trans (by rw [du_due hnn, hnm2]))) h) (fun _ => ?_)
            refine rm_iload hc dL_law_439 rfl ?_
            refine rm_bipush (v := 11) hc dL_law_441 (by decide) ?_
            refine rm_icmp_lt (tgt := 482) hc dL_law_443 (by decide) (fun h => absurd h (fun h2 => absurd ((nI_ltI (a := lo sv 20) (b := 11) (by omega) (by omega)).mp h2) (by omega))) (fun _ => ?_)
            refine rm_iload hc dL_law_446 rfl ?_
            refine rm_bipush (v := 16) hc dL_law_448 (by decide) ?_
            refine rm_icmp_gt (tgt := 482) hc dL_law_450 (by decide) (fun _ => ?_) (fun h => absurd ((nI_ltI (a := 16) (b := lo sv 20) (by omega) (by omega)).mpr (by omega)) h)
            refine rm_iload hc dL_law_482 rfl ?_
            refine rm_bipush (v := 6) hc dL_law_484 (by decide) ?_
            refine rm_icmp_ne (tgt := 503) hc dL_law_486 (by decide) (fun _ => ?_) (fun h => absurd h (fun h2 => absurd ((nI_eq (a := lo sv 20) (b := 6) (by omega) (by omega)).mp h2) (by omega)))
            refine rm_aload_n hc dL_law_503 rfl rfl ?_
            obtain ⟨⟨mY, hcY⟩, -⟩ := id A1
            refine rm_calliS (As := [.ref (ad 8 9 0)]) (rest := []) hc dL_law_504 (c_L_yard hI y (mm := mY) (B := B + 4) hcY hB) ms_L_106 (hn := rfl) (hst := rfl) (hw := Nat.le_of_ble_eq_true rfl) (hR := ⟨⟨rfl, rfl⟩, Nat.le_of_ble_eq_true rfl, Nat.le_of_ble_eq_true rfl⟩) (hnc := ⟨by omega, by omega⟩) (fun r_139 y_139 h_139 => ?_)
            obtain ⟨e_139, ey_139⟩ := h_139
            obtain rfl : r_139 = 1 := e_139
            refine rm_if_eq (tgt := 514) hc dL_law_507 (by decide) (fun h => absurd h (by decide)) (fun _ => ?_)
            refine rm_iconst (v := 1) hc dL_law_510 (by decide) ?_
            refine rm_goto (tgt := 515) hc dL_law_511 (by decide) ?_
            refine rm_istore_n (ls' := [(0, .ref b), (1, .ref (ad 8 9 0)), (2, .int 1), (3, .int (nI (T))), (4, .int (nI (t))), (5, .int (cntS x 7)), (6, .int (cntS x 0)), (7, .int (cntS x 2)), (8, .int (nI (lo sv 20))), (10, .int bv), (11, .int (nI (lo av 4))), (14, .int nm), (15, .int (duN x nm (nI (lo bv 8)) mm 3)), (16, .int (nI (nb))), (20, .int tr)]) hc dL_law_515 rfl (by decide) rfl ?_
            refine rm_iinc (v := (nI (t + 1))) (ls' := [(0, .ref b), (1, .ref (ad 8 9 0)), (2, .int 1), (3, .int (nI (T))), (4, .int (nI (t + 1))), (5, .int (cntS x 7)), (6, .int (cntS x 0)), (7, .int (cntS x 2)), (8, .int (nI (lo sv 20))), (10, .int bv), (11, .int (nI (lo av 4))), (14, .int nm), (15, .int (duN x nm (nI (lo bv 8)) mm 3)), (16, .int (nI (nb))), (20, .int tr)]) hc dL_law_516 rfl (nIj (by omega)) (by decide) rfl ?_
            refine rm_goto (tgt := 32) hc dL_law_519 (by decide) ?_
            refine rm_sub [0, 1, 2, 3, 4] rfl ?_
            exact kk _ (A1.e7 ey_139)
          · --
            have hnv : nm = -1 := (hm2 (by omega)).trans enm
            obtain rfl : tr = -1 := (A4 hg).trans (if_neg hpl)
            refine rm_if_ge (tgt := 434) hc dL_law_427 (by decide) (fun h => absurd h (by rw [hnv]; decide)) (fun _ => ?_)
            refine rm_iconst (v := -1) hc dL_law_430 (by decide) ?_
            refine rm_goto (tgt := 436) hc dL_law_431 (by decide) ?_
            refine rm_icmp_ne (tgt := 514) hc dL_law_436 (by decide) (fun h => absurd h (by decide)) (fun _ => ?_)
            refine rm_iload hc dL_law_439 rfl ?_
            refine rm_bipush (v := 11) hc dL_law_441 (by decide) ?_
            refine rm_icmp_lt (tgt := 482) hc dL_law_443 (by decide) (fun h => absurd h (fun h2 => absurd ((nI_ltI (a := lo sv 20) (b := 11) (by omega) (by omega)).mp h2) (by omega))) (fun _ => ?_)
            refine rm_iload hc dL_law_446 rfl ?_
            refine rm_bipush (v := 16) hc dL_law_448 (by decide) ?_
            refine rm_icmp_gt (tgt := 482) hc dL_law_450 (by decide) (fun _ => ?_) (fun h => absurd ((nI_ltI (a := 16) (b := lo sv 20) (by omega) (by omega)).mpr (by omega)) h)
            refine rm_iload hc dL_law_482 rfl ?_
            refine rm_bipush (v := 6) hc dL_law_484 (by decide) ?_
            refine rm_icmp_ne (tgt := 503) hc dL_law_486 (by decide) (fun _ => ?_) (fun h => absurd h (fun h2 => absurd ((nI_eq (a := lo sv 20) (b := 6) (by omega) (by omega)).mp h2) (by omega)))
            refine rm_aload_n hc dL_law_503 rfl rfl ?_
            obtain ⟨⟨mY, hcY⟩, -⟩ := id A1
            refine rm_calliS (As := [.ref (ad 8 9 0)]) (rest := []) hc dL_law_504 (c_L_yard hI y (mm := mY) (B := B + 4) hcY hB) ms_L_106 (hn := rfl) (hst := rfl) (hw := Nat.le_of_ble_eq_true rfl) (hR := ⟨⟨rfl, rfl⟩, Nat.le_of_ble_eq_true rfl, Nat.le_of_ble_eq_true rfl⟩) (hnc := ⟨by omega, by omega⟩) (fun r_145 y_145 h_145 => ?_)
            obtain ⟨e_145, ey_145⟩ := h_145
            obtain rfl : r_145 = 1 := e_145
            refine rm_if_eq (tgt := 514) hc dL_law_507 (by decide) (fun h => absurd h (by decide)) (fun _ => ?_)
            refine rm_iconst (v := 1) hc dL_law_510 (by decide) ?_
            refine rm_goto (tgt := 515) hc dL_law_511 (by decide) ?_
            refine rm_istore_n (ls' := [(0, .ref b), (1, .ref (ad 8 9 0)), (2, .int 1), (3, .int (nI (T))), (4, .int (nI (t))), (5, .int (cntS x 7)), (6, .int (cntS x 0)), (7, .int (cntS x 2)), (8, .int (nI (lo sv 20))), (10, .int bv), (11, .int (nI (lo av 4))), (14, .int nm), (15, .int (duN x nm (nI (lo bv 8)) mm 3)), (16, .int (nI (nb))), (20, .int (-1))]) hc dL_law_515 rfl (by decide) rfl ?_
            refine rm_iinc (v := (nI (t + 1))) (ls' := [(0, .ref b), (1, .ref (ad 8 9 0)), (2, .int 1), (3, .int (nI (T))), (4, .int (nI (t + 1))), (5, .int (cntS x 7)), (6, .int (cntS x 0)), (7, .int (cntS x 2)), (8, .int (nI (lo sv 20))), (10, .int bv), (11, .int (nI (lo av 4))), (14, .int nm), (15, .int (duN x nm (nI (lo bv 8)) mm 3)), (16, .int (nI (nb))), (20, .int (-1))]) hc dL_law_516 rfl (nIj (by omega)) (by decide) rfl ?_
            refine rm_goto (tgt := 32) hc dL_law_519 (by decide) ?_
            refine rm_sub [0, 1, 2, 3, 4] rfl ?_
            exact kk _ (A1.e7 ey_145)
        · --F
          have hyz : y = z := A2 (Int32.not_le.mp c_129)
          refine rm_aload_n hc dL_law_346 rfl rfl ?_
          refine rm_bipush (v := 7) hc dL_law_347 (by decide) ?_
          refine rm_calliV (As := [.int 7]) (rest := []) hc dL_law_349 (c_X8_count hI y 7 (by decide) (by decide)) mv_L_26 dm_9 rfl rfl (hn := rfl) (hst := rfl) (hw := Nat.le_of_ble_eq_true rfl) (hR := ⟨⟨rfl, rfl⟩, Nat.le_of_ble_eq_true rfl, Nat.le_of_ble_eq_true rfl⟩) (hnc := ⟨by omega, by omega⟩) (fun r_147 y_147 h_147 => ?_)
          obtain ⟨e_147, ey_147⟩ := h_147
          obtain rfl := ey_147.symm
          obtain rfl : r_147 = (cntS x 7) := e_147.trans (by rw [hyz]; exact cnt_e hz)
          refine rm_iload hc dL_law_352 rfl ?_
          refine rm_icmp_ne (tgt := 381) hc dL_law_354 (by decide) (fun h => absurd rfl h) (fun _ => ?_)
          refine rm_aload_n hc dL_law_357 rfl rfl ?_
          refine rm_iconst (v := 0) hc dL_law_358 (by decide) ?_
          refine rm_calliV (As := [.int 0]) (rest := []) hc dL_law_359 (c_X8_count hI y 0 (by decide) (by decide)) mv_L_26 dm_9 rfl rfl (hn := rfl) (hst := rfl) (hw := Nat.le_of_ble_eq_true rfl) (hR := ⟨⟨rfl, rfl⟩, Nat.le_of_ble_eq_true rfl, Nat.le_of_ble_eq_true rfl⟩) (hnc := ⟨by omega, by omega⟩) (fun r_149 y_149 h_149 => ?_)
          obtain ⟨e_149, ey_149⟩ := h_149
          obtain rfl := ey_149.symm
          obtain rfl : r_149 = (cntS x 0) := e_149.trans (by rw [hyz]; exact cnt_e hz)
          refine rm_iload hc dL_law_362 rfl ?_
          refine rm_icmp_ne (tgt := 381) hc dL_law_364 (by decide) (fun h => absurd rfl h) (fun _ => ?_)
          refine rm_aload_n hc dL_law_367 rfl rfl ?_
          refine rm_iconst (v := 2) hc dL_law_368 (by decide) ?_
          refine rm_calliV (As := [.int 2]) (rest := []) hc dL_law_369 (c_X8_count hI y 2 (by decide) (by decide)) mv_L_26 dm_9 rfl rfl (hn := rfl) (hst := rfl) (hw := Nat.le_of_ble_eq_true rfl) (hR := ⟨⟨rfl, rfl⟩, Nat.le_of_ble_eq_true rfl, Nat.le_of_ble_eq_true rfl⟩) (hnc := ⟨by omega, by omega⟩) (fun r_151 y_151 h_151 => ?_)
          obtain ⟨e_151, ey_151⟩ := h_151
          obtain rfl := ey_151.symm
          obtain rfl : r_151 = (cntS x 2) := e_151.trans (by rw [hyz]; exact cnt_e hz)
          refine rm_iload hc dL_law_372 rfl ?_
          refine rm_icmp_ne (tgt := 381) hc dL_law_374 (by decide) (fun h => absurd rfl h) (fun _ => ?_)
          refine rm_iconst (v := 1) hc dL_law_377 (by decide) ?_
          refine rm_goto (tgt := 382) hc dL_law_378 (by decide) ?_
          refine rm_istore_n (ls' := [(0, .ref b), (1, .ref (ad 8 9 0)), (2, .int 1), (3, .int (nI (T))), (4, .int (nI (t))), (5, .int (cntS x 7)), (6, .int (cntS x 0)), (7, .int (cntS x 2)), (8, .int (nI (lo sv 20))), (10, .int bv), (11, .int (nI (lo av 4))), (14, .int nm), (15, .int (duN x nm (nI (lo bv 8)) mm 3)), (16, .int (nI (nb))), (20, .int tr)]) hc dL_law_382 rfl (by decide) rfl ?_
          refine rm_iload_n hc dL_law_383 rfl rfl ?_
          refine rm_if_eq (tgt := 514) hc dL_law_384 (by decide) (fun h => absurd h (by decide)) (fun _ => ?_)
          refine rm_iload hc dL_law_387 rfl ?_
          refine rm_bipush (v := 11) hc dL_law_389 (by decide) ?_
          refine rm_icmp_lt (tgt := 439) hc dL_law_391 (by decide) (fun h => absurd h (fun h2 => absurd ((nI_ltI (a := lo sv 20) (b := 11) (by omega) (by omega)).mp h2) (by omega))) (fun _ => ?_)
          refine rm_iload hc dL_law_394 rfl ?_
          refine rm_bipush (v := 18) hc dL_law_396 (by decide) ?_
          refine rm_icmp_gt (tgt := 439) hc dL_law_398 (by decide) (fun h => absurd h (fun h2 => absurd ((nI_ltI (a := 18) (b := lo sv 20) (by omega) (by omega)).mp h2) (by omega))) (fun _ => ?_)
          refine rm_iload hc dL_law_401 rfl ?_
          refine rm_iload hc dL_law_403 rfl ?_
          refine rm_bipush (v := 17) hc dL_law_405 (by decide) ?_
          refine rm_icmp_ge (tgt := 425) hc dL_law_407 (by decide) (fun _ => ?_) (fun h => absurd ((nI_leI (a := 17) (b := lo sv 20) (by omega) (by omega)).mpr (by omega)) h)
          refine rm_iload hc dL_law_425 rfl ?_
          rcases num_or hc0 hr8 hnr l8a with ⟨hpl, enm, q9, hq9, enq⟩ | ⟨hpl, enm⟩
          · --
            have hnv : nm = nI q9 := (hm2 (by omega)).trans enq
            have hnm2 : nm = x 0 (6 + lo av 8) := (hm2 (by omega)).trans enm
            have hnn : ¬ nm < 0 := by rw [hnv]; exact nn_nI (by omega)
            refine rm_if_ge (tgt := 434) hc dL_law_427 (by decide) (fun _ => ?_) (fun h => absurd (Int32.not_lt.mp hnn) h)
            refine rm_iload hc dL_law_434 rfl ?_
            refine rm_icmp_ne (tgt := 514) hc dL_law_436 (by decide) (fun h => absurd ((A4 hg).trans ((if_pos hpl).trans (by rw [du_due hnn, hnm2]))) h) (fun _ => ?_)
            refine rm_iload hc dL_law_439 rfl ?_
            refine rm_bipush (v := 11) hc dL_law_441 (by decide) ?_
            refine rm_icmp_lt (tgt := 482) hc dL_law_443 (by decide) (fun h => absurd h (fun h2 => absurd ((nI_ltI (a := lo sv 20) (b := 11) (by omega) (by omega)).mp h2) (by omega))) (fun _ => ?_)
            refine rm_iload hc dL_law_446 rfl ?_
            refine rm_bipush (v := 16) hc dL_law_448 (by decide) ?_
            refine rm_icmp_gt (tgt := 482) hc dL_law_450 (by decide) (fun _ => ?_) (fun h => absurd ((nI_ltI (a := 16) (b := lo sv 20) (by omega) (by omega)).mpr (by omega)) h)
            refine rm_iload hc dL_law_482 rfl ?_
            refine rm_bipush (v := 6) hc dL_law_484 (by decide) ?_
            refine rm_icmp_ne (tgt := 503) hc dL_law_486 (by decide) (fun _ => ?_) (fun h => absurd h (fun h2 => absurd ((nI_eq (a := lo sv 20) (b := 6) (by omega) (by omega)).mp h2) (by omega)))
            refine rm_aload_n hc dL_law_503 rfl rfl ?_
            obtain ⟨⟨mY, hcY⟩, -⟩ := id A1
            refine rm_calliS (As := [.ref (ad 8 9 0)]) (rest := []) hc dL_law_504 (c_L_yard hI y (mm := mY) (B := B + 4) hcY hB) ms_L_106 (hn := rfl) (hst := rfl) (hw := Nat.le_of_ble_eq_true rfl) (hR := ⟨⟨rfl, rfl⟩, Nat.le_of_ble_eq_true rfl, Nat.le_of_ble_eq_true rfl⟩) (hnc := ⟨by omega, by omega⟩) (fun r_162 y_162 h_162 => ?_)
            obtain ⟨e_162, ey_162⟩ := h_162
            obtain rfl : r_162 = 1 := e_162
            refine rm_if_eq (tgt := 514) hc dL_law_507 (by decide) (fun h => absurd h (by decide)) (fun _ => ?_)
            refine rm_iconst (v := 1) hc dL_law_510 (by decide) ?_
            refine rm_goto (tgt := 515) hc dL_law_511 (by decide) ?_
            refine rm_istore_n (ls' := [(0, .ref b), (1, .ref (ad 8 9 0)), (2, .int 1), (3, .int (nI (T))), (4, .int (nI (t))), (5, .int (cntS x 7)), (6, .int (cntS x 0)), (7, .int (cntS x 2)), (8, .int (nI (lo sv 20))), (10, .int bv), (11, .int (nI (lo av 4))), (14, .int nm), (15, .int (duN x nm (nI (lo bv 8)) mm 3)), (16, .int (nI (nb))), (20, .int tr)]) hc dL_law_515 rfl (by decide) rfl ?_
            refine rm_iinc (v := (nI (t + 1))) (ls' := [(0, .ref b), (1, .ref (ad 8 9 0)), (2, .int 1), (3, .int (nI (T))), (4, .int (nI (t + 1))), (5, .int (cntS x 7)), (6, .int (cntS x 0)), (7, .int (cntS x 2)), (8, .int (nI (lo sv 20))), (10, .int bv), (11, .int (nI (lo av 4))), (14, .int nm), (15, .int (duN x nm (nI (lo bv 8)) mm 3)), (16, .int (nI (nb))), (20, .int tr)]) hc dL_law_516 rfl (nIj (by omega)) (by decide) rfl ?_
            refine rm_goto (tgt := 32) hc dL_law_519 (by decide) ?_
            refine rm_sub [0, 1, 2, 3, 4] rfl ?_
            exact kk _ (A1.e7 ey_162)
          · --
            have hnv : nm = -1 := (hm2 (by omega)).trans enm
            obtain rfl : tr = -1 := (A4 hg).trans (if_neg hpl)
            refine rm_if_ge (tgt := 434) hc dL_law_427 (by decide) (fun h => absurd h (by rw [hnv]; decide)) (fun _ => ?_)
            refine rm_iconst (v := -1) hc dL_law_430 (by decide) ?_
            refine rm_goto (tgt := 436) hc dL_law_431 (by decide) ?_
            refine rm_icmp_ne (tgt := 514) hc dL_law_436 (by decide) (fun h => absurd h (by decide)) (fun _ => ?_)
            refine rm_iload hc dL_law_439 rfl ?_
            refine rm_bipush (v := 11) hc dL_law_441 (by decide) ?_
            refine rm_icmp_lt (tgt := 482) hc dL_law_443 (by decide) (fun h => absurd h (fun h2 => absurd ((nI_ltI (a := lo sv 20) (b := 11) (by omega) (by omega)).mp h2) (by omega))) (fun _ => ?_)
            refine rm_iload hc dL_law_446 rfl ?_
            refine rm_bipush (v := 16) hc dL_law_448 (by decide) ?_
            refine rm_icmp_gt (tgt := 482) hc dL_law_450 (by decide) (fun _ => ?_) (fun h => absurd ((nI_ltI (a := 16) (b := lo sv 20) (by omega) (by omega)).mpr (by omega)) h)
            refine rm_iload hc dL_law_482 rfl ?_
            refine rm_bipush (v := 6) hc dL_law_484 (by decide) ?_
            refine rm_icmp_ne (tgt := 503) hc dL_law_486 (by decide) (fun _ => ?_) (fun h => absurd h (fun h2 => absurd ((nI_eq (a := lo sv 20) (b := 6) (by omega) (by omega)).mp h2) (by omega)))
            refine rm_aload_n hc dL_law_503 rfl rfl ?_
            obtain ⟨⟨mY, hcY⟩, -⟩ := id A1
            refine rm_calliS (As := [.ref (ad 8 9 0)]) (rest := []) hc dL_law_504 (c_L_yard hI y (mm := mY) (B := B + 4) hcY hB) ms_L_106 (hn := rfl) (hst := rfl) (hw := Nat.le_of_ble_eq_true rfl) (hR := ⟨⟨rfl, rfl⟩, Nat.le_of_ble_eq_true rfl, Nat.le_of_ble_eq_true rfl⟩) (hnc := ⟨by omega, by omega⟩) (fun r_168 y_168 h_168 => ?_)
            obtain ⟨e_168, ey_168⟩ := h_168
            obtain rfl : r_168 = 1 := e_168
            refine rm_if_eq (tgt := 514) hc dL_law_507 (by decide) (fun h => absurd h (by decide)) (fun _ => ?_)
            refine rm_iconst (v := 1) hc dL_law_510 (by decide) ?_
            refine rm_goto (tgt := 515) hc dL_law_511 (by decide) ?_
            refine rm_istore_n (ls' := [(0, .ref b), (1, .ref (ad 8 9 0)), (2, .int 1), (3, .int (nI (T))), (4, .int (nI (t))), (5, .int (cntS x 7)), (6, .int (cntS x 0)), (7, .int (cntS x 2)), (8, .int (nI (lo sv 20))), (10, .int bv), (11, .int (nI (lo av 4))), (14, .int nm), (15, .int (duN x nm (nI (lo bv 8)) mm 3)), (16, .int (nI (nb))), (20, .int (-1))]) hc dL_law_515 rfl (by decide) rfl ?_
            refine rm_iinc (v := (nI (t + 1))) (ls' := [(0, .ref b), (1, .ref (ad 8 9 0)), (2, .int 1), (3, .int (nI (T))), (4, .int (nI (t + 1))), (5, .int (cntS x 7)), (6, .int (cntS x 0)), (7, .int (cntS x 2)), (8, .int (nI (lo sv 20))), (10, .int bv), (11, .int (nI (lo av 4))), (14, .int nm), (15, .int (duN x nm (nI (lo bv 8)) mm 3)), (16, .int (nI (nb))), (20, .int (-1))]) hc dL_law_516 rfl (nIj (by omega)) (by decide) rfl ?_
            refine rm_goto (tgt := 32) hc dL_law_519 (by decide) ?_
            refine rm_sub [0, 1, 2, 3, 4] rfl ?_
            exact kk _ (A1.e7 ey_168)
      · --group 4
        refine rm_iload_n hc dL_law_337 rfl rfl ?_
        refine rm_if_eq (tgt := 381) hc dL_law_338 (by decide) (fun h => absurd h (by decide)) (fun _ => ?_)
        refine rm_iload hc dL_law_341 rfl ?_
        refine rm_if_ge (tgt := 377) hc dL_law_343 (by decide) (fun c_171 => ?_) (fun c_171 => ?_)
        · --T
          refine rm_iconst (v := 1) hc dL_law_377 (by decide) ?_
          refine rm_goto (tgt := 382) hc dL_law_378 (by decide) ?_
          refine rm_istore_n (ls' := [(0, .ref b), (1, .ref (ad 8 9 0)), (2, .int 1), (3, .int (nI (T))), (4, .int (nI (t))), (5, .int (cntS x 7)), (6, .int (cntS x 0)), (7, .int (cntS x 2)), (8, .int (nI (lo sv 20))), (10, .int bv), (11, .int (nI (lo av 4))), (14, .int nm), (15, .int (duN x nm (nI (lo bv 8)) mm 3)), (16, .int (nI (nb))), (20, .int tr)]) hc dL_law_382 rfl (by decide) rfl ?_
          refine rm_iload_n hc dL_law_383 rfl rfl ?_
          refine rm_if_eq (tgt := 514) hc dL_law_384 (by decide) (fun h => absurd h (by decide)) (fun _ => ?_)
          refine rm_iload hc dL_law_387 rfl ?_
          refine rm_bipush (v := 11) hc dL_law_389 (by decide) ?_
          refine rm_icmp_lt (tgt := 439) hc dL_law_391 (by decide) (fun h => absurd h (fun h2 => absurd ((nI_ltI (a := lo sv 20) (b := 11) (by omega) (by omega)).mp h2) (by omega))) (fun _ => ?_)
          refine rm_iload hc dL_law_394 rfl ?_
          refine rm_bipush (v := 18) hc dL_law_396 (by decide) ?_
          refine rm_icmp_gt (tgt := 439) hc dL_law_398 (by decide) (fun _ => ?_) (fun h => absurd ((nI_ltI (a := 18) (b := lo sv 20) (by omega) (by omega)).mpr (by omega)) h)
          refine rm_iload hc dL_law_439 rfl ?_
          refine rm_bipush (v := 11) hc dL_law_441 (by decide) ?_
          refine rm_icmp_lt (tgt := 482) hc dL_law_443 (by decide) (fun h => absurd h (fun h2 => absurd ((nI_ltI (a := lo sv 20) (b := 11) (by omega) (by omega)).mp h2) (by omega))) (fun _ => ?_)
          refine rm_iload hc dL_law_446 rfl ?_
          refine rm_bipush (v := 16) hc dL_law_448 (by decide) ?_
          refine rm_icmp_gt (tgt := 482) hc dL_law_450 (by decide) (fun _ => ?_) (fun h => absurd ((nI_ltI (a := 16) (b := lo sv 20) (by omega) (by omega)).mpr (by omega)) h)
          refine rm_iload hc dL_law_482 rfl ?_
          refine rm_bipush (v := 6) hc dL_law_484 (by decide) ?_
          refine rm_icmp_ne (tgt := 503) hc dL_law_486 (by decide) (fun _ => ?_) (fun h => absurd h (fun h2 => absurd ((nI_eq (a := lo sv 20) (b := 6) (by omega) (by omega)).mp h2) (by omega)))
          refine rm_aload_n hc dL_law_503 rfl rfl ?_
          obtain ⟨⟨mY, hcY⟩, -⟩ := id A1
          refine rm_calliS (As := [.ref (ad 8 9 0)]) (rest := []) hc dL_law_504 (c_L_yard hI y (mm := mY) (B := B + 4) hcY hB) ms_L_106 (hn := rfl) (hst := rfl) (hw := Nat.le_of_ble_eq_true rfl) (hR := ⟨⟨rfl, rfl⟩, Nat.le_of_ble_eq_true rfl, Nat.le_of_ble_eq_true rfl⟩) (hnc := ⟨by omega, by omega⟩) (fun r_178 y_178 h_178 => ?_)
          obtain ⟨e_178, ey_178⟩ := h_178
          obtain rfl : r_178 = 1 := e_178
          refine rm_if_eq (tgt := 514) hc dL_law_507 (by decide) (fun h => absurd h (by decide)) (fun _ => ?_)
          refine rm_iconst (v := 1) hc dL_law_510 (by decide) ?_
          refine rm_goto (tgt := 515) hc dL_law_511 (by decide) ?_
          refine rm_istore_n (ls' := [(0, .ref b), (1, .ref (ad 8 9 0)), (2, .int 1), (3, .int (nI (T))), (4, .int (nI (t))), (5, .int (cntS x 7)), (6, .int (cntS x 0)), (7, .int (cntS x 2)), (8, .int (nI (lo sv 20))), (10, .int bv), (11, .int (nI (lo av 4))), (14, .int nm), (15, .int (duN x nm (nI (lo bv 8)) mm 3)), (16, .int (nI (nb))), (20, .int tr)]) hc dL_law_515 rfl (by decide) rfl ?_
          refine rm_iinc (v := (nI (t + 1))) (ls' := [(0, .ref b), (1, .ref (ad 8 9 0)), (2, .int 1), (3, .int (nI (T))), (4, .int (nI (t + 1))), (5, .int (cntS x 7)), (6, .int (cntS x 0)), (7, .int (cntS x 2)), (8, .int (nI (lo sv 20))), (10, .int bv), (11, .int (nI (lo av 4))), (14, .int nm), (15, .int (duN x nm (nI (lo bv 8)) mm 3)), (16, .int (nI (nb))), (20, .int tr)]) hc dL_law_516 rfl (nIj (by omega)) (by decide) rfl ?_
          refine rm_goto (tgt := 32) hc dL_law_519 (by decide) ?_
          refine rm_sub [0, 1, 2, 3, 4] rfl ?_
          exact kk _ (A1.e7 ey_178)
        · --F
          have hyz : y = z := A2 (Int32.not_le.mp c_171)
          refine rm_aload_n hc dL_law_346 rfl rfl ?_
          refine rm_bipush (v := 7) hc dL_law_347 (by decide) ?_
          refine rm_calliV (As := [.int 7]) (rest := []) hc dL_law_349 (c_X8_count hI y 7 (by decide) (by decide)) mv_L_26 dm_9 rfl rfl (hn := rfl) (hst := rfl) (hw := Nat.le_of_ble_eq_true rfl) (hR := ⟨⟨rfl, rfl⟩, Nat.le_of_ble_eq_true rfl, Nat.le_of_ble_eq_true rfl⟩) (hnc := ⟨by omega, by omega⟩) (fun r_180 y_180 h_180 => ?_)
          obtain ⟨e_180, ey_180⟩ := h_180
          obtain rfl := ey_180.symm
          obtain rfl : r_180 = (cntS x 7) := e_180.trans (by rw [hyz]; exact cnt_e hz)
          refine rm_iload hc dL_law_352 rfl ?_
          refine rm_icmp_ne (tgt := 381) hc dL_law_354 (by decide) (fun h => absurd rfl h) (fun _ => ?_)
          refine rm_aload_n hc dL_law_357 rfl rfl ?_
          refine rm_iconst (v := 0) hc dL_law_358 (by decide) ?_
          refine rm_calliV (As := [.int 0]) (rest := []) hc dL_law_359 (c_X8_count hI y 0 (by decide) (by decide)) mv_L_26 dm_9 rfl rfl (hn := rfl) (hst := rfl) (hw := Nat.le_of_ble_eq_true rfl) (hR := ⟨⟨rfl, rfl⟩, Nat.le_of_ble_eq_true rfl, Nat.le_of_ble_eq_true rfl⟩) (hnc := ⟨by omega, by omega⟩) (fun r_182 y_182 h_182 => ?_)
          obtain ⟨e_182, ey_182⟩ := h_182
          obtain rfl := ey_182.symm
          obtain rfl : r_182 = (cntS x 0) := e_182.trans (by rw [hyz]; exact cnt_e hz)
          refine rm_iload hc dL_law_362 rfl ?_
          refine rm_icmp_ne (tgt := 381) hc dL_law_364 (by decide) (fun h => absurd rfl h) (fun _ => ?_)
          refine rm_aload_n hc dL_law_367 rfl rfl ?_
          refine rm_iconst (v := 2) hc dL_law_368 (by decide) ?_
          refine rm_calliV (As := [.int 2]) (rest := []) hc dL_law_369 (c_X8_count hI y 2 (by decide) (by decide)) mv_L_26 dm_9 rfl rfl (hn := rfl) (hst := rfl) (hw := Nat.le_of_ble_eq_true rfl) (hR := ⟨⟨rfl, rfl⟩, Nat.le_of_ble_eq_true rfl, Nat.le_of_ble_eq_true rfl⟩) (hnc := ⟨by omega, by omega⟩) (fun r_184 y_184 h_184 => ?_)
          obtain ⟨e_184, ey_184⟩ := h_184
          obtain rfl := ey_184.symm
          obtain rfl : r_184 = (cntS x 2) := e_184.trans (by rw [hyz]; exact cnt_e hz)
          refine rm_iload hc dL_law_372 rfl ?_
          refine rm_icmp_ne (tgt := 381) hc dL_law_374 (by decide) (fun h => absurd rfl h) (fun _ => ?_)
          refine rm_iconst (v := 1) hc dL_law_377 (by decide) ?_
          refine rm_goto (tgt := 382) hc dL_law_378 (by decide) ?_
          refine rm_istore_n (ls' := [(0, .ref b), (1, .ref (ad 8 9 0)), (2, .int 1), (3, .int (nI (T))), (4, .int (nI (t))), (5, .int (cntS x 7)), (6, .int (cntS x 0)), (7, .int (cntS x 2)), (8, .int (nI (lo sv 20))), (10, .int bv), (11, .int (nI (lo av 4))), (14, .int nm), (15, .int (duN x nm (nI (lo bv 8)) mm 3)), (16, .int (nI (nb))), (20, .int tr)]) hc dL_law_382 rfl (by decide) rfl ?_
          refine rm_iload_n hc dL_law_383 rfl rfl ?_
          refine rm_if_eq (tgt := 514) hc dL_law_384 (by decide) (fun h => absurd h (by decide)) (fun _ => ?_)
          refine rm_iload hc dL_law_387 rfl ?_
          refine rm_bipush (v := 11) hc dL_law_389 (by decide) ?_
          refine rm_icmp_lt (tgt := 439) hc dL_law_391 (by decide) (fun h => absurd h (fun h2 => absurd ((nI_ltI (a := lo sv 20) (b := 11) (by omega) (by omega)).mp h2) (by omega))) (fun _ => ?_)
          refine rm_iload hc dL_law_394 rfl ?_
          refine rm_bipush (v := 18) hc dL_law_396 (by decide) ?_
          refine rm_icmp_gt (tgt := 439) hc dL_law_398 (by decide) (fun _ => ?_) (fun h => absurd ((nI_ltI (a := 18) (b := lo sv 20) (by omega) (by omega)).mpr (by omega)) h)
          refine rm_iload hc dL_law_439 rfl ?_
          refine rm_bipush (v := 11) hc dL_law_441 (by decide) ?_
          refine rm_icmp_lt (tgt := 482) hc dL_law_443 (by decide) (fun h => absurd h (fun h2 => absurd ((nI_ltI (a := lo sv 20) (b := 11) (by omega) (by omega)).mp h2) (by omega))) (fun _ => ?_)
          refine rm_iload hc dL_law_446 rfl ?_
          refine rm_bipush (v := 16) hc dL_law_448 (by decide) ?_
          refine rm_icmp_gt (tgt := 482) hc dL_law_450 (by decide) (fun _ => ?_) (fun h => absurd ((nI_ltI (a := 16) (b := lo sv 20) (by omega) (by omega)).mpr (by omega)) h)
          refine rm_iload hc dL_law_482 rfl ?_
          refine rm_bipush (v := 6) hc dL_law_484 (by decide) ?_
          refine rm_icmp_ne (tgt := 503) hc dL_law_486 (by decide) (fun _ => ?_) (fun h => absurd h (fun h2 => absurd ((nI_eq (a := lo sv 20) (b := 6) (by omega) (by omega)).mp h2) (by omega)))
          refine rm_aload_n hc dL_law_503 rfl rfl ?_
          obtain ⟨⟨mY, hcY⟩, -⟩ := id A1
          refine rm_calliS (As := [.ref (ad 8 9 0)]) (rest := []) hc dL_law_504 (c_L_yard hI y (mm := mY) (B := B + 4) hcY hB) ms_L_106 (hn := rfl) (hst := rfl) (hw := Nat.le_of_ble_eq_true rfl) (hR := ⟨⟨rfl, rfl⟩, Nat.le_of_ble_eq_true rfl, Nat.le_of_ble_eq_true rfl⟩) (hnc := ⟨by omega, by omega⟩) (fun r_192 y_192 h_192 => ?_)
          obtain ⟨e_192, ey_192⟩ := h_192
          obtain rfl : r_192 = 1 := e_192
          refine rm_if_eq (tgt := 514) hc dL_law_507 (by decide) (fun h => absurd h (by decide)) (fun _ => ?_)
          refine rm_iconst (v := 1) hc dL_law_510 (by decide) ?_
          refine rm_goto (tgt := 515) hc dL_law_511 (by decide) ?_
          refine rm_istore_n (ls' := [(0, .ref b), (1, .ref (ad 8 9 0)), (2, .int 1), (3, .int (nI (T))), (4, .int (nI (t))), (5, .int (cntS x 7)), (6, .int (cntS x 0)), (7, .int (cntS x 2)), (8, .int (nI (lo sv 20))), (10, .int bv), (11, .int (nI (lo av 4))), (14, .int nm), (15, .int (duN x nm (nI (lo bv 8)) mm 3)), (16, .int (nI (nb))), (20, .int tr)]) hc dL_law_515 rfl (by decide) rfl ?_
          refine rm_iinc (v := (nI (t + 1))) (ls' := [(0, .ref b), (1, .ref (ad 8 9 0)), (2, .int 1), (3, .int (nI (T))), (4, .int (nI (t + 1))), (5, .int (cntS x 7)), (6, .int (cntS x 0)), (7, .int (cntS x 2)), (8, .int (nI (lo sv 20))), (10, .int bv), (11, .int (nI (lo av 4))), (14, .int nm), (15, .int (duN x nm (nI (lo bv 8)) mm 3)), (16, .int (nI (nb))), (20, .int tr)]) hc dL_law_516 rfl (nIj (by omega)) (by decide) rfl ?_
          refine rm_goto (tgt := 32) hc dL_law_519 (by decide) ?_
          refine rm_sub [0, 1, 2, 3, 4] rfl ?_
          exact kk _ (A1.e7 ey_192)
    refine rm_istore (ls' := [(0, .ref b), (1, .ref (ad 8 9 0)), (2, .int 1), (3, .int (nI (T))), (4, .int (nI (t))), (5, .int (cntS x 7)), (6, .int (cntS x 0)), (7, .int (cntS x 2)), (8, .int (nI (lo sv 20))), (9, .int av), (10, .int bv), (11, .int (nI (lo av 4))), (12, .int (nI (lo av 8))), (13, .int (nI (lo bv 8))), (14, .int nm)]) hc dL_law_152 (by decide) rfl ?_
    refine rm_iconst (v := 0) hc dL_law_154 (by decide) ?_
    refine rm_istore (ls' := [(0, .ref b), (1, .ref (ad 8 9 0)), (2, .int 1), (3, .int (nI (T))), (4, .int (nI (t))), (5, .int (cntS x 7)), (6, .int (cntS x 0)), (7, .int (cntS x 2)), (8, .int (nI (lo sv 20))), (9, .int av), (10, .int bv), (11, .int (nI (lo av 4))), (12, .int (nI (lo av 8))), (13, .int (nI (lo bv 8))), (14, .int nm), (15, .int 0)]) hc dL_law_155 (by decide) rfl ?_
    refine rm_iconst (v := 0) hc dL_law_157 (by decide) ?_
    refine rm_istore (ls' := [(0, .ref b), (1, .ref (ad 8 9 0)), (2, .int 1), (3, .int (nI (T))), (4, .int (nI (t))), (5, .int (cntS x 7)), (6, .int (cntS x 0)), (7, .int (cntS x 2)), (8, .int (nI (lo sv 20))), (9, .int av), (10, .int bv), (11, .int (nI (lo av 4))), (12, .int (nI (lo av 8))), (13, .int (nI (lo bv 8))), (14, .int nm), (15, .int 0), (16, .int 0)]) hc dL_law_158 (by decide) rfl ?_
    have keyE : ∀ (fE dd : Nat) (zm : Mem), dd + fE = 3 → E7 x zm → RM p l e room_1 s m args below meth c 21 (AA ad s.heap.size) (GG D cy ad zm) nc ns Q 160 [(0, .ref b), (1, .ref (ad 8 9 0)), (2, .int 1), (3, .int (nI (T))), (4, .int (nI (t))), (5, .int (cntS x 7)), (6, .int (cntS x 0)), (7, .int (cntS x 2)), (8, .int (nI (lo sv 20))), (9, .int av), (10, .int bv), (11, .int (nI (lo av 4))), (12, .int (nI (lo av 8))), (13, .int (nI (lo bv 8))), (14, .int nm), (15, .int (duN x nm (nI (lo bv 8)) mm dd)), (16, .int (nI (dd)))] [] := by
      intro fE
      induction fE with
      | zero =>
        intro dd zm hdd hE
        refine rm_iload hc dL_law_160 rfl ?_
        refine rm_iconst (v := 3) hc dL_law_162 (by decide) ?_
        refine rm_icmp_ge (tgt := 212) hc dL_law_163 (by decide) (fun _ => ?_) (fun h => absurd ((nI_leI (a := 3) (b := dd) (by omega) (by omega)).mpr (by omega)) h)
        obtain rfl : dd = 3 := by omega
        refine rm_aload_n hc dL_law_212 rfl rfl ?_
        refine rm_iload hc dL_law_213 rfl ?_
        refine rm_iconst (v := 2) hc dL_law_215 (by decide) ?_
        refine rm_calliV (As := [.int (nI (lo av 4)), .int 2]) (rest := []) hc dL_law_216 (c_X8_fob hI zm (j := lo av 4) (by omega) 2 (by decide) (by decide)) mv_L_34 dm_9 rfl rfl (hn := rfl) (hst := rfl) (hw := Nat.le_of_ble_eq_true rfl) (hR := ⟨⟨rfl, rfl⟩, Nat.le_of_ble_eq_true rfl, Nat.le_of_ble_eq_true rfl⟩) (hnc := ⟨by omega, by omega⟩) (fun r_195 y_195 h_195 => ?_)
        obtain ⟨e_195, ey_195⟩ := h_195
        obtain rfl := ey_195.symm
        obtain rfl : r_195 = nI nb := e_195.trans ((lkF_e hE).trans ((lkF_2 x _).trans hnb))
        refine rm_istore (ls' := [(0, .ref b), (1, .ref (ad 8 9 0)), (2, .int 1), (3, .int (nI (T))), (4, .int (nI (t))), (5, .int (cntS x 7)), (6, .int (cntS x 0)), (7, .int (cntS x 2)), (8, .int (nI (lo sv 20))), (9, .int av), (10, .int bv), (11, .int (nI (lo av 4))), (12, .int (nI (lo av 8))), (13, .int (nI (lo bv 8))), (14, .int nm), (15, .int (duN x nm (nI (lo bv 8)) mm 3)), (16, .int (nI (nb)))]) hc dL_law_219 (by decide) rfl ?_
        refine rm_aload_n hc dL_law_221 rfl rfl ?_
        refine rm_iload hc dL_law_222 rfl ?_
        refine rm_iload hc dL_law_224 rfl ?_
        refine rm_iconst (v := 3) hc dL_law_226 (by decide) ?_
        refine rm_calliS (As := [.int bv, .int 3]) (rest := [.int (nI (lo av 4)), .ref (ad 8 9 0)]) hc dL_law_227 (c_L_low hI zm bv (n := 3) (by omega) (by omega)) ms_L_63 (hn := rfl) (hst := rfl) (hw := Nat.le_of_ble_eq_true rfl) (hR := ⟨⟨rfl, rfl⟩, Nat.le_of_ble_eq_true rfl, Nat.le_of_ble_eq_true rfl⟩) (hnc := ⟨by omega, by omega⟩) (fun r_196 y_196 h_196 => ?_)
        obtain ⟨e_196, ey_196⟩ := h_196
        obtain rfl := ey_196.symm
        obtain rfl : r_196 = nI (lo bv 3) := e_196
        refine rm_calliV (As := [.int (nI (lo av 4)), .int (nI (lo bv 3))]) (rest := []) hc dL_law_230 (c_X8_unheard hI zm (j := lo av 4) (d := lo bv 3) (by omega) (by omega) mm (by omega) ((hE.at (by omega)).trans hw) (hE.flg (by omega) hF)) mv_L_96 dm_9 rfl rfl (hn := rfl) (hst := rfl) (hw := Nat.le_of_ble_eq_true rfl) (hR := ⟨⟨rfl, rfl⟩, Nat.le_of_ble_eq_true rfl, Nat.le_of_ble_eq_true rfl⟩) (hnc := ⟨by omega, by omega⟩) (fun r_197 y_197 h_197 => ?_)
        obtain ⟨e_197, ey_197⟩ := h_197
        have hE_197 : E7 x y_197 := hE.tr ey_197
        replace e_197 := e_197.trans hE.mun
        by_cases hh : hrR x 0 (lo bv 3) 0 (nxtN x 0 (lo av 4)) mm = 0
        · --op
          obtain ⟨ui, hui, eui⟩ := mun_1 hh
          obtain rfl : r_197 = nI ui := e_197.trans eui
          rcases Nat.eq_zero_or_pos nb with hnz | hnz
          · --nb
            refine rm_istore (ls' := [(0, .ref b), (1, .ref (ad 8 9 0)), (2, .int 1), (3, .int (nI (T))), (4, .int (nI (t))), (5, .int (cntS x 7)), (6, .int (cntS x 0)), (7, .int (cntS x 2)), (8, .int (nI (lo sv 20))), (9, .int av), (10, .int bv), (11, .int (nI (lo av 4))), (12, .int (nI (lo av 8))), (13, .int (nI (lo bv 8))), (14, .int nm), (15, .int (duN x nm (nI (lo bv 8)) mm 3)), (16, .int (nI (nb))), (17, .int (nI (ui)))]) hc dL_law_233 (by decide) rfl ?_
            refine rm_aload_n hc dL_law_235 rfl rfl ?_
            refine rm_iload hc dL_law_236 rfl ?_
            refine rm_iload hc dL_law_238 rfl ?_
            refine rm_iconst (v := 3) hc dL_law_240 (by decide) ?_
            refine rm_calliS (As := [.int bv, .int 3]) (rest := [.int (nI (lo av 4)), .ref (ad 8 9 0)]) hc dL_law_241 (c_L_low hI y_197 bv (n := 3) (by omega) (by omega)) ms_L_63 (hn := rfl) (hst := rfl) (hw := Nat.le_of_ble_eq_true rfl) (hR := ⟨⟨rfl, rfl⟩, Nat.le_of_ble_eq_true rfl, Nat.le_of_ble_eq_true rfl⟩) (hnc := ⟨by omega, by omega⟩) (fun r_198 y_198 h_198 => ?_)
            obtain ⟨e_198, ey_198⟩ := h_198
            obtain rfl := ey_198.symm
            obtain rfl : r_198 = nI (lo bv 3) := e_198
            refine rm_calliV (As := [.int (nI (lo av 4)), .int (nI (lo bv 3))]) (rest := []) hc dL_law_244 (c_X8_opensIn hI y_197 (j := lo av 4) (d := lo bv 3) (nb := nb) (by omega) (by omega) mm (by omega) ((hE_197.at (by omega)).trans hw) (hE_197.flg (by omega) hF) ((hE_197.at (by omega)).trans hnb) hnb9) mv_L_99 dm_9 rfl rfl (hn := rfl) (hst := rfl) (hw := Nat.le_of_ble_eq_true rfl) (hR := ⟨⟨rfl, rfl⟩, Nat.le_of_ble_eq_true rfl, Nat.le_of_ble_eq_true rfl⟩) (hnc := ⟨by omega, by omega⟩) (fun r_199 y_199 h_199 => ?_)
            obtain ⟨e_199, ey_199⟩ := h_199
            have hE_199 : E7 x y_199 := hE_197.tr ey_199
            replace e_199 := e_199.trans hE_197.pto
            obtain rfl : r_199 = (-1) := e_199.trans (by rw [hnz]; exact pto_z)
            refine rm_istore (ls' := [(0, .ref b), (1, .ref (ad 8 9 0)), (2, .int 1), (3, .int (nI (T))), (4, .int (nI (t))), (5, .int (cntS x 7)), (6, .int (cntS x 0)), (7, .int (cntS x 2)), (8, .int (nI (lo sv 20))), (9, .int av), (10, .int bv), (11, .int (nI (lo av 4))), (12, .int (nI (lo av 8))), (13, .int (nI (lo bv 8))), (14, .int nm), (15, .int (duN x nm (nI (lo bv 8)) mm 3)), (16, .int (nI (nb))), (17, .int (nI (ui))), (18, .int (-1))]) hc dL_law_247 (by decide) rfl ?_
            refine rm_aload_n hc dL_law_249 rfl rfl ?_
            refine rm_iload hc dL_law_250 rfl ?_
            refine rm_iconst (v := 3) hc dL_law_252 (by decide) ?_
            refine rm_calliS (As := [.int bv, .int 3]) (rest := [.ref (ad 8 9 0)]) hc dL_law_253 (c_L_low hI y_199 bv (n := 3) (by omega) (by omega)) ms_L_63 (hn := rfl) (hst := rfl) (hw := Nat.le_of_ble_eq_true rfl) (hR := ⟨⟨rfl, rfl⟩, Nat.le_of_ble_eq_true rfl, Nat.le_of_ble_eq_true rfl⟩) (hnc := ⟨by omega, by omega⟩) (fun r_200 y_200 h_200 => ?_)
            obtain ⟨e_200, ey_200⟩ := h_200
            obtain rfl := ey_200.symm
            obtain rfl : r_200 = nI (lo bv 3) := e_200
            refine rm_aload_n hc dL_law_256 rfl rfl ?_
            refine rm_iload hc dL_law_257 rfl ?_
            refine rm_iconst (v := 3) hc dL_law_259 (by decide) ?_
            refine rm_calliV (As := [.int (nI (lo av 4)), .int 3]) (rest := [.int (nI (lo bv 3)), .ref (ad 8 9 0)]) hc dL_law_260 (c_X8_fob hI y_199 (j := lo av 4) (by omega) 3 (by decide) (by decide)) mv_L_34 dm_9 rfl rfl (hn := rfl) (hst := rfl) (hw := Nat.le_of_ble_eq_true rfl) (hR := ⟨⟨rfl, rfl⟩, Nat.le_of_ble_eq_true rfl, Nat.le_of_ble_eq_true rfl⟩) (hnc := ⟨by omega, by omega⟩) (fun r_201 y_201 h_201 => ?_)
            obtain ⟨e_201, ey_201⟩ := h_201
            obtain rfl := ey_201.symm
            obtain rfl : r_201 = nI qn := e_201.trans ((lkF_e hE_199).trans ((lkF_3 x _).trans eqn))
            refine rm_calliV (As := [.int (nI (lo bv 3)), .int (nI (qn))]) (rest := []) hc dL_law_263 (c_X8_ifHeard hI y_199 (d := lo bv 3) (by omega) mm (by omega) ((hE_199.at (by omega)).trans hw) (hE_199.flg (by omega) hF) (nI (qn)) (nn_nI (by omega)) (nle_nI (a := qn) (b := 65535) (by omega) (by omega))) mv_L_50 dm_9 rfl rfl (hn := rfl) (hst := rfl) (hw := Nat.le_of_ble_eq_true rfl) (hR := ⟨⟨rfl, rfl⟩, Nat.le_of_ble_eq_true rfl, Nat.le_of_ble_eq_true rfl⟩) (hnc := ⟨by omega, by omega⟩) (fun r_202 y_202 h_202 => ?_)
            obtain ⟨e_202, ey_202⟩ := h_202
            have hE_202 : E7 x y_202 := hE_199.tr ey_202
            obtain rfl : r_202 = 0 := e_202.trans (hE_199.hrd.trans (by rw [← eqn]; exact hh))
            refine rm_istore (ls' := [(0, .ref b), (1, .ref (ad 8 9 0)), (2, .int 1), (3, .int (nI (T))), (4, .int (nI (t))), (5, .int (cntS x 7)), (6, .int (cntS x 0)), (7, .int (cntS x 2)), (8, .int (nI (lo sv 20))), (9, .int av), (10, .int bv), (11, .int (nI (lo av 4))), (12, .int (nI (lo av 8))), (13, .int (nI (lo bv 8))), (14, .int nm), (15, .int (duN x nm (nI (lo bv 8)) mm 3)), (16, .int (nI (nb))), (17, .int (nI (ui))), (18, .int (-1)), (19, .int 0)]) hc dL_law_266 (by decide) rfl ?_
            refine rm_aload_n hc dL_law_268 rfl rfl ?_
            refine rm_aload_n hc dL_law_269 rfl rfl ?_
            refine rm_iconst (v := 3) hc dL_law_270 (by decide) ?_
            refine rm_iload hc dL_law_271 rfl ?_
            refine rm_imul hc dL_law_273 (fun v_203 e_203 => ?_)
            obtain rfl : v_203 = (nI (3 * t)) := e_203.trans (nmul (m := 3) (n := t) (by omega))
            clear e_203
            refine rm_callS (As := [.ref (ad 8 9 0), .ref b, .int (nI (3 * t))]) (rest := []) hc hX dL_law_274 (c_L_act hI y_202 hfl (mm := mm) (nr := nr) (nq := nq) (kq := kq) (B := B) (k0 := 3 * t) (sv := sv) (av := av) (bv := bv) (hi.e7 hE_202) (by rw [hE_202 0 (by omega)]; exact hc0) h6 hk6 (hn.fr (Nat.le_refl _) (by rw [hE_202 8 (by omega)])) (by rw [hE_202 8 (by omega)]; exact h8) (by omega) (by rw [hE_202 0 (by omega)]; exact hnr) hr8 (by omega) (by omega) hsv (by rw [show 3 * t + 1 = 1 + 3 * t by omega]; exact hav) (by rw [show 3 * t + 2 = 2 + 3 * t by omega]; exact hbv)) ms_L_102 (hn := rfl) (hst := rfl) (hw := Nat.le_of_ble_eq_true rfl) (hR := ⟨⟨rfl, rfl⟩, Nat.le_of_ble_eq_true rfl, Nat.le_of_ble_eq_true rfl⟩) (hnc := hnc) (fun r_205 y_205 h_205 => ?_)
            refine rm_istore (ls' := [(0, .ref b), (1, .ref (ad 8 9 0)), (2, .int 1), (3, .int (nI (T))), (4, .int (nI (t))), (5, .int (cntS x 7)), (6, .int (cntS x 0)), (7, .int (cntS x 2)), (8, .int (nI (lo sv 20))), (9, .int av), (10, .int bv), (11, .int (nI (lo av 4))), (12, .int (nI (lo av 8))), (13, .int (nI (lo bv 8))), (14, .int nm), (15, .int (duN x nm (nI (lo bv 8)) mm 3)), (16, .int (nI (nb))), (17, .int (nI (ui))), (18, .int (-1)), (19, .int 0), (20, .int r_205)]) hc dL_law_277 (by decide) rfl ?_
            refine rm_iload hc dL_law_279 rfl ?_
            refine rm_iconst (v := -1) hc dL_law_281 (by decide) ?_
            refine rm_icmp_ne (tgt := 289) hc dL_law_282 (by decide) (fun _ => ?_) (fun h => absurd h (nI_nm1 (by omega)))
            refine rm_iconst (v := 0) hc dL_law_289 (by decide) ?_
            refine rm_iload hc dL_law_290 rfl ?_
            refine rm_if_eq (tgt := 299) hc dL_law_292 (by decide) (fun _ => ?_) (fun h => absurd (by decide) h)
            refine rm_iconst (v := 0) hc dL_law_299 (by decide) ?_
            refine rm_icmp_ne (tgt := 335) hc dL_law_300 (by decide) (fun h => absurd h (by decide)) (fun _ => ?_)
            refine rm_iload hc dL_law_303 rfl ?_
            refine rm_iconst (v := -1) hc dL_law_305 (by decide) ?_
            refine rm_icmp_eq (tgt := 320) hc dL_law_306 (by decide) (fun h => absurd h (nI_nm1 (by omega))) (fun _ => ?_)
            refine rm_iload hc dL_law_309 rfl ?_
            refine rm_if_eq (tgt := 320) hc dL_law_311 (by decide) (fun _ => ?_) (fun h => absurd ((nI_eq (a := nb) (b := 0) (by omega) (by omega)).mpr (by omega)) h)
            refine rm_iload hc dL_law_320 rfl ?_
            refine rm_if_gt (tgt := 331) hc dL_law_322 (by decide) (fun h => absurd h (fun h2 => absurd ((nI_ltI (a := 0) (b := nb) (by omega) (by omega)).mp h2) (by omega))) (fun _ => ?_)
            refine rm_iload hc dL_law_325 rfl ?_
            refine rm_iconst (v := -1) hc dL_law_327 (by decide) ?_
            refine rm_icmp_ne (tgt := 335) hc dL_law_328 (by decide) (fun h => absurd h (by decide)) (fun _ => ?_)
            refine rm_iconst (v := 1) hc dL_law_331 (by decide) ?_
            refine rm_goto (tgt := 336) hc dL_law_332 (by decide) ?_
            refine rm_istore_n (ls' := [(0, .ref b), (1, .ref (ad 8 9 0)), (2, .int 1), (3, .int (nI (T))), (4, .int (nI (t))), (5, .int (cntS x 7)), (6, .int (cntS x 0)), (7, .int (cntS x 2)), (8, .int (nI (lo sv 20))), (9, .int av), (10, .int bv), (11, .int (nI (lo av 4))), (12, .int (nI (lo av 8))), (13, .int (nI (lo bv 8))), (14, .int nm), (15, .int (duN x nm (nI (lo bv 8)) mm 3)), (16, .int (nI (nb))), (17, .int (nI (ui))), (18, .int (-1)), (19, .int 0), (20, .int r_205)]) hc dL_law_336 rfl (by decide) rfl ?_
            refine rm_sub [0, 1, 2, 3, 4, 5, 6, 7, 8, 10, 11, 14, 15, 16, 20] rfl ?_
            exact key337 _ _ _ hE_202 h_205
          · --nb
            refine rm_istore (ls' := [(0, .ref b), (1, .ref (ad 8 9 0)), (2, .int 1), (3, .int (nI (T))), (4, .int (nI (t))), (5, .int (cntS x 7)), (6, .int (cntS x 0)), (7, .int (cntS x 2)), (8, .int (nI (lo sv 20))), (9, .int av), (10, .int bv), (11, .int (nI (lo av 4))), (12, .int (nI (lo av 8))), (13, .int (nI (lo bv 8))), (14, .int nm), (15, .int (duN x nm (nI (lo bv 8)) mm 3)), (16, .int (nI (nb))), (17, .int (nI (ui)))]) hc dL_law_233 (by decide) rfl ?_
            refine rm_aload_n hc dL_law_235 rfl rfl ?_
            refine rm_iload hc dL_law_236 rfl ?_
            refine rm_iload hc dL_law_238 rfl ?_
            refine rm_iconst (v := 3) hc dL_law_240 (by decide) ?_
            refine rm_calliS (As := [.int bv, .int 3]) (rest := [.int (nI (lo av 4)), .ref (ad 8 9 0)]) hc dL_law_241 (c_L_low hI y_197 bv (n := 3) (by omega) (by omega)) ms_L_63 (hn := rfl) (hst := rfl) (hw := Nat.le_of_ble_eq_true rfl) (hR := ⟨⟨rfl, rfl⟩, Nat.le_of_ble_eq_true rfl, Nat.le_of_ble_eq_true rfl⟩) (hnc := ⟨by omega, by omega⟩) (fun r_213 y_213 h_213 => ?_)
            obtain ⟨e_213, ey_213⟩ := h_213
            obtain rfl := ey_213.symm
            obtain rfl : r_213 = nI (lo bv 3) := e_213
            refine rm_calliV (As := [.int (nI (lo av 4)), .int (nI (lo bv 3))]) (rest := []) hc dL_law_244 (c_X8_opensIn hI y_197 (j := lo av 4) (d := lo bv 3) (nb := nb) (by omega) (by omega) mm (by omega) ((hE_197.at (by omega)).trans hw) (hE_197.flg (by omega) hF) ((hE_197.at (by omega)).trans hnb) hnb9) mv_L_99 dm_9 rfl rfl (hn := rfl) (hst := rfl) (hw := Nat.le_of_ble_eq_true rfl) (hR := ⟨⟨rfl, rfl⟩, Nat.le_of_ble_eq_true rfl, Nat.le_of_ble_eq_true rfl⟩) (hnc := ⟨by omega, by omega⟩) (fun r_214 y_214 h_214 => ?_)
            obtain ⟨e_214, ey_214⟩ := h_214
            have hE_214 : E7 x y_214 := hE_197.tr ey_214
            replace e_214 := e_214.trans hE_197.pto
            obtain rfl : r_214 = 1 := e_214.trans (pto_1 hnz hh)
            refine rm_istore (ls' := [(0, .ref b), (1, .ref (ad 8 9 0)), (2, .int 1), (3, .int (nI (T))), (4, .int (nI (t))), (5, .int (cntS x 7)), (6, .int (cntS x 0)), (7, .int (cntS x 2)), (8, .int (nI (lo sv 20))), (9, .int av), (10, .int bv), (11, .int (nI (lo av 4))), (12, .int (nI (lo av 8))), (13, .int (nI (lo bv 8))), (14, .int nm), (15, .int (duN x nm (nI (lo bv 8)) mm 3)), (16, .int (nI (nb))), (17, .int (nI (ui))), (18, .int 1)]) hc dL_law_247 (by decide) rfl ?_
            refine rm_aload_n hc dL_law_249 rfl rfl ?_
            refine rm_iload hc dL_law_250 rfl ?_
            refine rm_iconst (v := 3) hc dL_law_252 (by decide) ?_
            refine rm_calliS (As := [.int bv, .int 3]) (rest := [.ref (ad 8 9 0)]) hc dL_law_253 (c_L_low hI y_214 bv (n := 3) (by omega) (by omega)) ms_L_63 (hn := rfl) (hst := rfl) (hw := Nat.le_of_ble_eq_true rfl) (hR := ⟨⟨rfl, rfl⟩, Nat.le_of_ble_eq_true rfl, Nat.le_of_ble_eq_true rfl⟩) (hnc := ⟨by omega, by omega⟩) (fun r_215 y_215 h_215 => ?_)
            obtain ⟨e_215, ey_215⟩ := h_215
            obtain rfl := ey_215.symm
            obtain rfl : r_215 = nI (lo bv 3) := e_215
            refine rm_aload_n hc dL_law_256 rfl rfl ?_
            refine rm_iload hc dL_law_257 rfl ?_
            refine rm_iconst (v := 3) hc dL_law_259 (by decide) ?_
            refine rm_calliV (As := [.int (nI (lo av 4)), .int 3]) (rest := [.int (nI (lo bv 3)), .ref (ad 8 9 0)]) hc dL_law_260 (c_X8_fob hI y_214 (j := lo av 4) (by omega) 3 (by decide) (by decide)) mv_L_34 dm_9 rfl rfl (hn := rfl) (hst := rfl) (hw := Nat.le_of_ble_eq_true rfl) (hR := ⟨⟨rfl, rfl⟩, Nat.le_of_ble_eq_true rfl, Nat.le_of_ble_eq_true rfl⟩) (hnc := ⟨by omega, by omega⟩) (fun r_216 y_216 h_216 => ?_)
            obtain ⟨e_216, ey_216⟩ := h_216
            obtain rfl := ey_216.symm
            obtain rfl : r_216 = nI qn := e_216.trans ((lkF_e hE_214).trans ((lkF_3 x _).trans eqn))
            refine rm_calliV (As := [.int (nI (lo bv 3)), .int (nI (qn))]) (rest := []) hc dL_law_263 (c_X8_ifHeard hI y_214 (d := lo bv 3) (by omega) mm (by omega) ((hE_214.at (by omega)).trans hw) (hE_214.flg (by omega) hF) (nI (qn)) (nn_nI (by omega)) (nle_nI (a := qn) (b := 65535) (by omega) (by omega))) mv_L_50 dm_9 rfl rfl (hn := rfl) (hst := rfl) (hw := Nat.le_of_ble_eq_true rfl) (hR := ⟨⟨rfl, rfl⟩, Nat.le_of_ble_eq_true rfl, Nat.le_of_ble_eq_true rfl⟩) (hnc := ⟨by omega, by omega⟩) (fun r_217 y_217 h_217 => ?_)
            obtain ⟨e_217, ey_217⟩ := h_217
            have hE_217 : E7 x y_217 := hE_214.tr ey_217
            obtain rfl : r_217 = 0 := e_217.trans (hE_214.hrd.trans (by rw [← eqn]; exact hh))
            refine rm_istore (ls' := [(0, .ref b), (1, .ref (ad 8 9 0)), (2, .int 1), (3, .int (nI (T))), (4, .int (nI (t))), (5, .int (cntS x 7)), (6, .int (cntS x 0)), (7, .int (cntS x 2)), (8, .int (nI (lo sv 20))), (9, .int av), (10, .int bv), (11, .int (nI (lo av 4))), (12, .int (nI (lo av 8))), (13, .int (nI (lo bv 8))), (14, .int nm), (15, .int (duN x nm (nI (lo bv 8)) mm 3)), (16, .int (nI (nb))), (17, .int (nI (ui))), (18, .int 1), (19, .int 0)]) hc dL_law_266 (by decide) rfl ?_
            refine rm_aload_n hc dL_law_268 rfl rfl ?_
            refine rm_aload_n hc dL_law_269 rfl rfl ?_
            refine rm_iconst (v := 3) hc dL_law_270 (by decide) ?_
            refine rm_iload hc dL_law_271 rfl ?_
            refine rm_imul hc dL_law_273 (fun v_218 e_218 => ?_)
            obtain rfl : v_218 = (nI (3 * t)) := e_218.trans (nmul (m := 3) (n := t) (by omega))
            clear e_218
            refine rm_callS (As := [.ref (ad 8 9 0), .ref b, .int (nI (3 * t))]) (rest := []) hc hX dL_law_274 (c_L_act hI y_217 hfl (mm := mm) (nr := nr) (nq := nq) (kq := kq) (B := B) (k0 := 3 * t) (sv := sv) (av := av) (bv := bv) (hi.e7 hE_217) (by rw [hE_217 0 (by omega)]; exact hc0) h6 hk6 (hn.fr (Nat.le_refl _) (by rw [hE_217 8 (by omega)])) (by rw [hE_217 8 (by omega)]; exact h8) (by omega) (by rw [hE_217 0 (by omega)]; exact hnr) hr8 (by omega) (by omega) hsv (by rw [show 3 * t + 1 = 1 + 3 * t by omega]; exact hav) (by rw [show 3 * t + 2 = 2 + 3 * t by omega]; exact hbv)) ms_L_102 (hn := rfl) (hst := rfl) (hw := Nat.le_of_ble_eq_true rfl) (hR := ⟨⟨rfl, rfl⟩, Nat.le_of_ble_eq_true rfl, Nat.le_of_ble_eq_true rfl⟩) (hnc := hnc) (fun r_220 y_220 h_220 => ?_)
            refine rm_istore (ls' := [(0, .ref b), (1, .ref (ad 8 9 0)), (2, .int 1), (3, .int (nI (T))), (4, .int (nI (t))), (5, .int (cntS x 7)), (6, .int (cntS x 0)), (7, .int (cntS x 2)), (8, .int (nI (lo sv 20))), (9, .int av), (10, .int bv), (11, .int (nI (lo av 4))), (12, .int (nI (lo av 8))), (13, .int (nI (lo bv 8))), (14, .int nm), (15, .int (duN x nm (nI (lo bv 8)) mm 3)), (16, .int (nI (nb))), (17, .int (nI (ui))), (18, .int 1), (19, .int 0), (20, .int r_220)]) hc dL_law_277 (by decide) rfl ?_
            refine rm_iload hc dL_law_279 rfl ?_
            refine rm_iconst (v := -1) hc dL_law_281 (by decide) ?_
            refine rm_icmp_ne (tgt := 289) hc dL_law_282 (by decide) (fun _ => ?_) (fun h => absurd h (nI_nm1 (by omega)))
            refine rm_iconst (v := 0) hc dL_law_289 (by decide) ?_
            refine rm_iload hc dL_law_290 rfl ?_
            refine rm_if_eq (tgt := 299) hc dL_law_292 (by decide) (fun _ => ?_) (fun h => absurd (by decide) h)
            refine rm_iconst (v := 0) hc dL_law_299 (by decide) ?_
            refine rm_icmp_ne (tgt := 335) hc dL_law_300 (by decide) (fun h => absurd h (by decide)) (fun _ => ?_)
            refine rm_iload hc dL_law_303 rfl ?_
            refine rm_iconst (v := -1) hc dL_law_305 (by decide) ?_
            refine rm_icmp_eq (tgt := 320) hc dL_law_306 (by decide) (fun h => absurd h (nI_nm1 (by omega))) (fun _ => ?_)
            refine rm_iload hc dL_law_309 rfl ?_
            refine rm_if_eq (tgt := 320) hc dL_law_311 (by decide) (fun h => absurd h (fun h2 => absurd ((nI_eq (a := nb) (b := 0) (by omega) (by omega)).mp h2) (by omega))) (fun _ => ?_)
            refine rm_iload hc dL_law_314 rfl ?_
            refine rm_iconst (v := 1) hc dL_law_316 (by decide) ?_
            refine rm_icmp_ne (tgt := 335) hc dL_law_317 (by decide) (fun h => absurd h (by decide)) (fun _ => ?_)
            refine rm_iload hc dL_law_320 rfl ?_
            refine rm_if_gt (tgt := 331) hc dL_law_322 (by decide) (fun _ => ?_) (fun h => absurd ((nI_ltI (a := 0) (b := nb) (by omega) (by omega)).mpr (by omega)) h)
            refine rm_iconst (v := 1) hc dL_law_331 (by decide) ?_
            refine rm_goto (tgt := 336) hc dL_law_332 (by decide) ?_
            refine rm_istore_n (ls' := [(0, .ref b), (1, .ref (ad 8 9 0)), (2, .int 1), (3, .int (nI (T))), (4, .int (nI (t))), (5, .int (cntS x 7)), (6, .int (cntS x 0)), (7, .int (cntS x 2)), (8, .int (nI (lo sv 20))), (9, .int av), (10, .int bv), (11, .int (nI (lo av 4))), (12, .int (nI (lo av 8))), (13, .int (nI (lo bv 8))), (14, .int nm), (15, .int (duN x nm (nI (lo bv 8)) mm 3)), (16, .int (nI (nb))), (17, .int (nI (ui))), (18, .int 1), (19, .int 0), (20, .int r_220)]) hc dL_law_336 rfl (by decide) rfl ?_
            refine rm_sub [0, 1, 2, 3, 4, 5, 6, 7, 8, 10, 11, 14, 15, 16, 20] rfl ?_
            exact key337 _ _ _ hE_217 h_220
        · --op
          obtain rfl : r_197 = -1 := e_197.trans (mun_n hh)
          rcases Nat.eq_zero_or_pos nb with hnz | hnz
          · --nb
            refine rm_istore (ls' := [(0, .ref b), (1, .ref (ad 8 9 0)), (2, .int 1), (3, .int (nI (T))), (4, .int (nI (t))), (5, .int (cntS x 7)), (6, .int (cntS x 0)), (7, .int (cntS x 2)), (8, .int (nI (lo sv 20))), (9, .int av), (10, .int bv), (11, .int (nI (lo av 4))), (12, .int (nI (lo av 8))), (13, .int (nI (lo bv 8))), (14, .int nm), (15, .int (duN x nm (nI (lo bv 8)) mm 3)), (16, .int (nI (nb))), (17, .int (-1))]) hc dL_law_233 (by decide) rfl ?_
            refine rm_aload_n hc dL_law_235 rfl rfl ?_
            refine rm_iload hc dL_law_236 rfl ?_
            refine rm_iload hc dL_law_238 rfl ?_
            refine rm_iconst (v := 3) hc dL_law_240 (by decide) ?_
            refine rm_calliS (As := [.int bv, .int 3]) (rest := [.int (nI (lo av 4)), .ref (ad 8 9 0)]) hc dL_law_241 (c_L_low hI y_197 bv (n := 3) (by omega) (by omega)) ms_L_63 (hn := rfl) (hst := rfl) (hw := Nat.le_of_ble_eq_true rfl) (hR := ⟨⟨rfl, rfl⟩, Nat.le_of_ble_eq_true rfl, Nat.le_of_ble_eq_true rfl⟩) (hnc := ⟨by omega, by omega⟩) (fun r_228 y_228 h_228 => ?_)
            obtain ⟨e_228, ey_228⟩ := h_228
            obtain rfl := ey_228.symm
            obtain rfl : r_228 = nI (lo bv 3) := e_228
            refine rm_calliV (As := [.int (nI (lo av 4)), .int (nI (lo bv 3))]) (rest := []) hc dL_law_244 (c_X8_opensIn hI y_197 (j := lo av 4) (d := lo bv 3) (nb := nb) (by omega) (by omega) mm (by omega) ((hE_197.at (by omega)).trans hw) (hE_197.flg (by omega) hF) ((hE_197.at (by omega)).trans hnb) hnb9) mv_L_99 dm_9 rfl rfl (hn := rfl) (hst := rfl) (hw := Nat.le_of_ble_eq_true rfl) (hR := ⟨⟨rfl, rfl⟩, Nat.le_of_ble_eq_true rfl, Nat.le_of_ble_eq_true rfl⟩) (hnc := ⟨by omega, by omega⟩) (fun r_229 y_229 h_229 => ?_)
            obtain ⟨e_229, ey_229⟩ := h_229
            have hE_229 : E7 x y_229 := hE_197.tr ey_229
            replace e_229 := e_229.trans hE_197.pto
            obtain rfl : r_229 = (-1) := e_229.trans (by rw [hnz]; exact pto_z)
            refine rm_istore (ls' := [(0, .ref b), (1, .ref (ad 8 9 0)), (2, .int 1), (3, .int (nI (T))), (4, .int (nI (t))), (5, .int (cntS x 7)), (6, .int (cntS x 0)), (7, .int (cntS x 2)), (8, .int (nI (lo sv 20))), (9, .int av), (10, .int bv), (11, .int (nI (lo av 4))), (12, .int (nI (lo av 8))), (13, .int (nI (lo bv 8))), (14, .int nm), (15, .int (duN x nm (nI (lo bv 8)) mm 3)), (16, .int (nI (nb))), (17, .int (-1)), (18, .int (-1))]) hc dL_law_247 (by decide) rfl ?_
            refine rm_aload_n hc dL_law_249 rfl rfl ?_
            refine rm_iload hc dL_law_250 rfl ?_
            refine rm_iconst (v := 3) hc dL_law_252 (by decide) ?_
            refine rm_calliS (As := [.int bv, .int 3]) (rest := [.ref (ad 8 9 0)]) hc dL_law_253 (c_L_low hI y_229 bv (n := 3) (by omega) (by omega)) ms_L_63 (hn := rfl) (hst := rfl) (hw := Nat.le_of_ble_eq_true rfl) (hR := ⟨⟨rfl, rfl⟩, Nat.le_of_ble_eq_true rfl, Nat.le_of_ble_eq_true rfl⟩) (hnc := ⟨by omega, by omega⟩) (fun r_230 y_230 h_230 => ?_)
            obtain ⟨e_230, ey_230⟩ := h_230
            obtain rfl := ey_230.symm
            obtain rfl : r_230 = nI (lo bv 3) := e_230
            refine rm_aload_n hc dL_law_256 rfl rfl ?_
            refine rm_iload hc dL_law_257 rfl ?_
            refine rm_iconst (v := 3) hc dL_law_259 (by decide) ?_
            refine rm_calliV (As := [.int (nI (lo av 4)), .int 3]) (rest := [.int (nI (lo bv 3)), .ref (ad 8 9 0)]) hc dL_law_260 (c_X8_fob hI y_229 (j := lo av 4) (by omega) 3 (by decide) (by decide)) mv_L_34 dm_9 rfl rfl (hn := rfl) (hst := rfl) (hw := Nat.le_of_ble_eq_true rfl) (hR := ⟨⟨rfl, rfl⟩, Nat.le_of_ble_eq_true rfl, Nat.le_of_ble_eq_true rfl⟩) (hnc := ⟨by omega, by omega⟩) (fun r_231 y_231 h_231 => ?_)
            obtain ⟨e_231, ey_231⟩ := h_231
            obtain rfl := ey_231.symm
            obtain rfl : r_231 = nI qn := e_231.trans ((lkF_e hE_229).trans ((lkF_3 x _).trans eqn))
            refine rm_calliV (As := [.int (nI (lo bv 3)), .int (nI (qn))]) (rest := []) hc dL_law_263 (c_X8_ifHeard hI y_229 (d := lo bv 3) (by omega) mm (by omega) ((hE_229.at (by omega)).trans hw) (hE_229.flg (by omega) hF) (nI (qn)) (nn_nI (by omega)) (nle_nI (a := qn) (b := 65535) (by omega) (by omega))) mv_L_50 dm_9 rfl rfl (hn := rfl) (hst := rfl) (hw := Nat.le_of_ble_eq_true rfl) (hR := ⟨⟨rfl, rfl⟩, Nat.le_of_ble_eq_true rfl, Nat.le_of_ble_eq_true rfl⟩) (hnc := ⟨by omega, by omega⟩) (fun r_232 y_232 h_232 => ?_)
            obtain ⟨e_232, ey_232⟩ := h_232
            have hE_232 : E7 x y_232 := hE_229.tr ey_232
            have hn0 : ¬ r_232 = 0 := by rw [e_232, hE_229.hrd, ← eqn]; exact hh
            refine rm_istore (ls' := [(0, .ref b), (1, .ref (ad 8 9 0)), (2, .int 1), (3, .int (nI (T))), (4, .int (nI (t))), (5, .int (cntS x 7)), (6, .int (cntS x 0)), (7, .int (cntS x 2)), (8, .int (nI (lo sv 20))), (9, .int av), (10, .int bv), (11, .int (nI (lo av 4))), (12, .int (nI (lo av 8))), (13, .int (nI (lo bv 8))), (14, .int nm), (15, .int (duN x nm (nI (lo bv 8)) mm 3)), (16, .int (nI (nb))), (17, .int (-1)), (18, .int (-1)), (19, .int r_232)]) hc dL_law_266 (by decide) rfl ?_
            refine rm_aload_n hc dL_law_268 rfl rfl ?_
            refine rm_aload_n hc dL_law_269 rfl rfl ?_
            refine rm_iconst (v := 3) hc dL_law_270 (by decide) ?_
            refine rm_iload hc dL_law_271 rfl ?_
            refine rm_imul hc dL_law_273 (fun v_233 e_233 => ?_)
            obtain rfl : v_233 = (nI (3 * t)) := e_233.trans (nmul (m := 3) (n := t) (by omega))
            clear e_233
            refine rm_callS (As := [.ref (ad 8 9 0), .ref b, .int (nI (3 * t))]) (rest := []) hc hX dL_law_274 (c_L_act hI y_232 hfl (mm := mm) (nr := nr) (nq := nq) (kq := kq) (B := B) (k0 := 3 * t) (sv := sv) (av := av) (bv := bv) (hi.e7 hE_232) (by rw [hE_232 0 (by omega)]; exact hc0) h6 hk6 (hn.fr (Nat.le_refl _) (by rw [hE_232 8 (by omega)])) (by rw [hE_232 8 (by omega)]; exact h8) (by omega) (by rw [hE_232 0 (by omega)]; exact hnr) hr8 (by omega) (by omega) hsv (by rw [show 3 * t + 1 = 1 + 3 * t by omega]; exact hav) (by rw [show 3 * t + 2 = 2 + 3 * t by omega]; exact hbv)) ms_L_102 (hn := rfl) (hst := rfl) (hw := Nat.le_of_ble_eq_true rfl) (hR := ⟨⟨rfl, rfl⟩, Nat.le_of_ble_eq_true rfl, Nat.le_of_ble_eq_true rfl⟩) (hnc := hnc) (fun r_235 y_235 h_235 => ?_)
            refine rm_istore (ls' := [(0, .ref b), (1, .ref (ad 8 9 0)), (2, .int 1), (3, .int (nI (T))), (4, .int (nI (t))), (5, .int (cntS x 7)), (6, .int (cntS x 0)), (7, .int (cntS x 2)), (8, .int (nI (lo sv 20))), (9, .int av), (10, .int bv), (11, .int (nI (lo av 4))), (12, .int (nI (lo av 8))), (13, .int (nI (lo bv 8))), (14, .int nm), (15, .int (duN x nm (nI (lo bv 8)) mm 3)), (16, .int (nI (nb))), (17, .int (-1)), (18, .int (-1)), (19, .int r_232), (20, .int r_235)]) hc dL_law_277 (by decide) rfl ?_
            refine rm_iload hc dL_law_279 rfl ?_
            refine rm_iconst (v := -1) hc dL_law_281 (by decide) ?_
            refine rm_icmp_ne (tgt := 289) hc dL_law_282 (by decide) (fun h => absurd h (by decide)) (fun _ => ?_)
            refine rm_iconst (v := 1) hc dL_law_285 (by decide) ?_
            refine rm_goto (tgt := 290) hc dL_law_286 (by decide) ?_
            refine rm_iload hc dL_law_290 rfl ?_
            refine rm_if_eq (tgt := 299) hc dL_law_292 (by decide) (fun h => absurd h hn0) (fun _ => ?_)
            refine rm_iconst (v := 1) hc dL_law_295 (by decide) ?_
            refine rm_goto (tgt := 300) hc dL_law_296 (by decide) ?_
            refine rm_icmp_ne (tgt := 335) hc dL_law_300 (by decide) (fun h => absurd h (by decide)) (fun _ => ?_)
            refine rm_iload hc dL_law_303 rfl ?_
            refine rm_iconst (v := -1) hc dL_law_305 (by decide) ?_
            refine rm_icmp_eq (tgt := 320) hc dL_law_306 (by decide) (fun _ => ?_) (fun h => absurd (by decide) h)
            refine rm_iload hc dL_law_320 rfl ?_
            refine rm_if_gt (tgt := 331) hc dL_law_322 (by decide) (fun h => absurd h (fun h2 => absurd ((nI_ltI (a := 0) (b := nb) (by omega) (by omega)).mp h2) (by omega))) (fun _ => ?_)
            refine rm_iload hc dL_law_325 rfl ?_
            refine rm_iconst (v := -1) hc dL_law_327 (by decide) ?_
            refine rm_icmp_ne (tgt := 335) hc dL_law_328 (by decide) (fun h => absurd h (by decide)) (fun _ => ?_)
            refine rm_iconst (v := 1) hc dL_law_331 (by decide) ?_
            refine rm_goto (tgt := 336) hc dL_law_332 (by decide) ?_
            refine rm_istore_n (ls' := [(0, .ref b), (1, .ref (ad 8 9 0)), (2, .int 1), (3, .int (nI (T))), (4, .int (nI (t))), (5, .int (cntS x 7)), (6, .int (cntS x 0)), (7, .int (cntS x 2)), (8, .int (nI (lo sv 20))), (9, .int av), (10, .int bv), (11, .int (nI (lo av 4))), (12, .int (nI (lo av 8))), (13, .int (nI (lo bv 8))), (14, .int nm), (15, .int (duN x nm (nI (lo bv 8)) mm 3)), (16, .int (nI (nb))), (17, .int (-1)), (18, .int (-1)), (19, .int r_232), (20, .int r_235)]) hc dL_law_336 rfl (by decide) rfl ?_
            refine rm_sub [0, 1, 2, 3, 4, 5, 6, 7, 8, 10, 11, 14, 15, 16, 20] rfl ?_
            exact key337 _ _ _ hE_232 h_235
          · --nb
            refine rm_istore (ls' := [(0, .ref b), (1, .ref (ad 8 9 0)), (2, .int 1), (3, .int (nI (T))), (4, .int (nI (t))), (5, .int (cntS x 7)), (6, .int (cntS x 0)), (7, .int (cntS x 2)), (8, .int (nI (lo sv 20))), (9, .int av), (10, .int bv), (11, .int (nI (lo av 4))), (12, .int (nI (lo av 8))), (13, .int (nI (lo bv 8))), (14, .int nm), (15, .int (duN x nm (nI (lo bv 8)) mm 3)), (16, .int (nI (nb))), (17, .int (-1))]) hc dL_law_233 (by decide) rfl ?_
            refine rm_aload_n hc dL_law_235 rfl rfl ?_
            refine rm_iload hc dL_law_236 rfl ?_
            refine rm_iload hc dL_law_238 rfl ?_
            refine rm_iconst (v := 3) hc dL_law_240 (by decide) ?_
            refine rm_calliS (As := [.int bv, .int 3]) (rest := [.int (nI (lo av 4)), .ref (ad 8 9 0)]) hc dL_law_241 (c_L_low hI y_197 bv (n := 3) (by omega) (by omega)) ms_L_63 (hn := rfl) (hst := rfl) (hw := Nat.le_of_ble_eq_true rfl) (hR := ⟨⟨rfl, rfl⟩, Nat.le_of_ble_eq_true rfl, Nat.le_of_ble_eq_true rfl⟩) (hnc := ⟨by omega, by omega⟩) (fun r_242 y_242 h_242 => ?_)
            obtain ⟨e_242, ey_242⟩ := h_242
            obtain rfl := ey_242.symm
            obtain rfl : r_242 = nI (lo bv 3) := e_242
            refine rm_calliV (As := [.int (nI (lo av 4)), .int (nI (lo bv 3))]) (rest := []) hc dL_law_244 (c_X8_opensIn hI y_197 (j := lo av 4) (d := lo bv 3) (nb := nb) (by omega) (by omega) mm (by omega) ((hE_197.at (by omega)).trans hw) (hE_197.flg (by omega) hF) ((hE_197.at (by omega)).trans hnb) hnb9) mv_L_99 dm_9 rfl rfl (hn := rfl) (hst := rfl) (hw := Nat.le_of_ble_eq_true rfl) (hR := ⟨⟨rfl, rfl⟩, Nat.le_of_ble_eq_true rfl, Nat.le_of_ble_eq_true rfl⟩) (hnc := ⟨by omega, by omega⟩) (fun r_243 y_243 h_243 => ?_)
            obtain ⟨e_243, ey_243⟩ := h_243
            have hE_243 : E7 x y_243 := hE_197.tr ey_243
            replace e_243 := e_243.trans hE_197.pto
            refine rm_istore (ls' := [(0, .ref b), (1, .ref (ad 8 9 0)), (2, .int 1), (3, .int (nI (T))), (4, .int (nI (t))), (5, .int (cntS x 7)), (6, .int (cntS x 0)), (7, .int (cntS x 2)), (8, .int (nI (lo sv 20))), (9, .int av), (10, .int bv), (11, .int (nI (lo av 4))), (12, .int (nI (lo av 8))), (13, .int (nI (lo bv 8))), (14, .int nm), (15, .int (duN x nm (nI (lo bv 8)) mm 3)), (16, .int (nI (nb))), (17, .int (-1)), (18, .int r_243)]) hc dL_law_247 (by decide) rfl ?_
            refine rm_aload_n hc dL_law_249 rfl rfl ?_
            refine rm_iload hc dL_law_250 rfl ?_
            refine rm_iconst (v := 3) hc dL_law_252 (by decide) ?_
            refine rm_calliS (As := [.int bv, .int 3]) (rest := [.ref (ad 8 9 0)]) hc dL_law_253 (c_L_low hI y_243 bv (n := 3) (by omega) (by omega)) ms_L_63 (hn := rfl) (hst := rfl) (hw := Nat.le_of_ble_eq_true rfl) (hR := ⟨⟨rfl, rfl⟩, Nat.le_of_ble_eq_true rfl, Nat.le_of_ble_eq_true rfl⟩) (hnc := ⟨by omega, by omega⟩) (fun r_244 y_244 h_244 => ?_)
            obtain ⟨e_244, ey_244⟩ := h_244
            obtain rfl := ey_244.symm
            obtain rfl : r_244 = nI (lo bv 3) := e_244
            refine rm_aload_n hc dL_law_256 rfl rfl ?_
            refine rm_iload hc dL_law_257 rfl ?_
            refine rm_iconst (v := 3) hc dL_law_259 (by decide) ?_
            refine rm_calliV (As := [.int (nI (lo av 4)), .int 3]) (rest := [.int (nI (lo bv 3)), .ref (ad 8 9 0)]) hc dL_law_260 (c_X8_fob hI y_243 (j := lo av 4) (by omega) 3 (by decide) (by decide)) mv_L_34 dm_9 rfl rfl (hn := rfl) (hst := rfl) (hw := Nat.le_of_ble_eq_true rfl) (hR := ⟨⟨rfl, rfl⟩, Nat.le_of_ble_eq_true rfl, Nat.le_of_ble_eq_true rfl⟩) (hnc := ⟨by omega, by omega⟩) (fun r_245 y_245 h_245 => ?_)
            obtain ⟨e_245, ey_245⟩ := h_245
            obtain rfl := ey_245.symm
            obtain rfl : r_245 = nI qn := e_245.trans ((lkF_e hE_243).trans ((lkF_3 x _).trans eqn))
            refine rm_calliV (As := [.int (nI (lo bv 3)), .int (nI (qn))]) (rest := []) hc dL_law_263 (c_X8_ifHeard hI y_243 (d := lo bv 3) (by omega) mm (by omega) ((hE_243.at (by omega)).trans hw) (hE_243.flg (by omega) hF) (nI (qn)) (nn_nI (by omega)) (nle_nI (a := qn) (b := 65535) (by omega) (by omega))) mv_L_50 dm_9 rfl rfl (hn := rfl) (hst := rfl) (hw := Nat.le_of_ble_eq_true rfl) (hR := ⟨⟨rfl, rfl⟩, Nat.le_of_ble_eq_true rfl, Nat.le_of_ble_eq_true rfl⟩) (hnc := ⟨by omega, by omega⟩) (fun r_246 y_246 h_246 => ?_)
            obtain ⟨e_246, ey_246⟩ := h_246
            have hE_246 : E7 x y_246 := hE_243.tr ey_246
            have hn0 : ¬ r_246 = 0 := by rw [e_246, hE_243.hrd, ← eqn]; exact hh
            refine rm_istore (ls' := [(0, .ref b), (1, .ref (ad 8 9 0)), (2, .int 1), (3, .int (nI (T))), (4, .int (nI (t))), (5, .int (cntS x 7)), (6, .int (cntS x 0)), (7, .int (cntS x 2)), (8, .int (nI (lo sv 20))), (9, .int av), (10, .int bv), (11, .int (nI (lo av 4))), (12, .int (nI (lo av 8))), (13, .int (nI (lo bv 8))), (14, .int nm), (15, .int (duN x nm (nI (lo bv 8)) mm 3)), (16, .int (nI (nb))), (17, .int (-1)), (18, .int r_243), (19, .int r_246)]) hc dL_law_266 (by decide) rfl ?_
            refine rm_aload_n hc dL_law_268 rfl rfl ?_
            refine rm_aload_n hc dL_law_269 rfl rfl ?_
            refine rm_iconst (v := 3) hc dL_law_270 (by decide) ?_
            refine rm_iload hc dL_law_271 rfl ?_
            refine rm_imul hc dL_law_273 (fun v_247 e_247 => ?_)
            obtain rfl : v_247 = (nI (3 * t)) := e_247.trans (nmul (m := 3) (n := t) (by omega))
            clear e_247
            refine rm_callS (As := [.ref (ad 8 9 0), .ref b, .int (nI (3 * t))]) (rest := []) hc hX dL_law_274 (c_L_act hI y_246 hfl (mm := mm) (nr := nr) (nq := nq) (kq := kq) (B := B) (k0 := 3 * t) (sv := sv) (av := av) (bv := bv) (hi.e7 hE_246) (by rw [hE_246 0 (by omega)]; exact hc0) h6 hk6 (hn.fr (Nat.le_refl _) (by rw [hE_246 8 (by omega)])) (by rw [hE_246 8 (by omega)]; exact h8) (by omega) (by rw [hE_246 0 (by omega)]; exact hnr) hr8 (by omega) (by omega) hsv (by rw [show 3 * t + 1 = 1 + 3 * t by omega]; exact hav) (by rw [show 3 * t + 2 = 2 + 3 * t by omega]; exact hbv)) ms_L_102 (hn := rfl) (hst := rfl) (hw := Nat.le_of_ble_eq_true rfl) (hR := ⟨⟨rfl, rfl⟩, Nat.le_of_ble_eq_true rfl, Nat.le_of_ble_eq_true rfl⟩) (hnc := hnc) (fun r_249 y_249 h_249 => ?_)
            refine rm_istore (ls' := [(0, .ref b), (1, .ref (ad 8 9 0)), (2, .int 1), (3, .int (nI (T))), (4, .int (nI (t))), (5, .int (cntS x 7)), (6, .int (cntS x 0)), (7, .int (cntS x 2)), (8, .int (nI (lo sv 20))), (9, .int av), (10, .int bv), (11, .int (nI (lo av 4))), (12, .int (nI (lo av 8))), (13, .int (nI (lo bv 8))), (14, .int nm), (15, .int (duN x nm (nI (lo bv 8)) mm 3)), (16, .int (nI (nb))), (17, .int (-1)), (18, .int r_243), (19, .int r_246), (20, .int r_249)]) hc dL_law_277 (by decide) rfl ?_
            refine rm_iload hc dL_law_279 rfl ?_
            refine rm_iconst (v := -1) hc dL_law_281 (by decide) ?_
            refine rm_icmp_ne (tgt := 289) hc dL_law_282 (by decide) (fun h => absurd h (by decide)) (fun _ => ?_)
            refine rm_iconst (v := 1) hc dL_law_285 (by decide) ?_
            refine rm_goto (tgt := 290) hc dL_law_286 (by decide) ?_
            refine rm_iload hc dL_law_290 rfl ?_
            refine rm_if_eq (tgt := 299) hc dL_law_292 (by decide) (fun h => absurd h hn0) (fun _ => ?_)
            refine rm_iconst (v := 1) hc dL_law_295 (by decide) ?_
            refine rm_goto (tgt := 300) hc dL_law_296 (by decide) ?_
            refine rm_icmp_ne (tgt := 335) hc dL_law_300 (by decide) (fun h => absurd h (by decide)) (fun _ => ?_)
            refine rm_iload hc dL_law_303 rfl ?_
            refine rm_iconst (v := -1) hc dL_law_305 (by decide) ?_
            refine rm_icmp_eq (tgt := 320) hc dL_law_306 (by decide) (fun _ => ?_) (fun h => absurd (by decide) h)
            refine rm_iload hc dL_law_320 rfl ?_
            refine rm_if_gt (tgt := 331) hc dL_law_322 (by decide) (fun _ => ?_) (fun h => absurd ((nI_ltI (a := 0) (b := nb) (by omega) (by omega)).mpr (by omega)) h)
            refine rm_iconst (v := 1) hc dL_law_331 (by decide) ?_
            refine rm_goto (tgt := 336) hc dL_law_332 (by decide) ?_
            refine rm_istore_n (ls' := [(0, .ref b), (1, .ref (ad 8 9 0)), (2, .int 1), (3, .int (nI (T))), (4, .int (nI (t))), (5, .int (cntS x 7)), (6, .int (cntS x 0)), (7, .int (cntS x 2)), (8, .int (nI (lo sv 20))), (9, .int av), (10, .int bv), (11, .int (nI (lo av 4))), (12, .int (nI (lo av 8))), (13, .int (nI (lo bv 8))), (14, .int nm), (15, .int (duN x nm (nI (lo bv 8)) mm 3)), (16, .int (nI (nb))), (17, .int (-1)), (18, .int r_243), (19, .int r_246), (20, .int r_249)]) hc dL_law_336 rfl (by decide) rfl ?_
            refine rm_sub [0, 1, 2, 3, 4, 5, 6, 7, 8, 10, 11, 14, 15, 16, 20] rfl ?_
            exact key337 _ _ _ hE_246 h_249
      | succ fE ihE =>
        intro dd zm hdd hE
        refine rm_iload hc dL_law_160 rfl ?_
        refine rm_iconst (v := 3) hc dL_law_162 (by decide) ?_
        refine rm_icmp_ge (tgt := 212) hc dL_law_163 (by decide) (fun h => absurd h (fun h2 => absurd ((nI_leI (a := 3) (b := dd) (by omega) (by omega)).mp h2) (by omega))) (fun _ => ?_)
        refine rm_iload hc dL_law_166 rfl ?_
        refine rm_iload hc dL_law_168 rfl ?_
        refine rm_if_lt (tgt := 202) hc dL_law_170 (by decide) (fun c_256 => ?_) (fun c_256 => ?_)
        · --
          refine rm_iconst (v := 0) hc dL_law_202 (by decide) ?_
          refine rm_ior hc dL_law_203 (fun v_257 e_257 => ?_)
          obtain rfl : v_257 = (duN x nm (nI (lo bv 8)) mm (dd + 1)) := e_257.trans (du_neg c_256).symm
          refine rm_istore (ls' := [(0, .ref b), (1, .ref (ad 8 9 0)), (2, .int 1), (3, .int (nI (T))), (4, .int (nI (t))), (5, .int (cntS x 7)), (6, .int (cntS x 0)), (7, .int (cntS x 2)), (8, .int (nI (lo sv 20))), (9, .int av), (10, .int bv), (11, .int (nI (lo av 4))), (12, .int (nI (lo av 8))), (13, .int (nI (lo bv 8))), (14, .int nm), (15, .int (duN x nm (nI (lo bv 8)) mm (dd + 1))), (16, .int (nI (dd)))]) hc dL_law_204 (by decide) rfl ?_
          refine rm_iinc (v := (nI (dd + 1))) (ls' := [(0, .ref b), (1, .ref (ad 8 9 0)), (2, .int 1), (3, .int (nI (T))), (4, .int (nI (t))), (5, .int (cntS x 7)), (6, .int (cntS x 0)), (7, .int (cntS x 2)), (8, .int (nI (lo sv 20))), (9, .int av), (10, .int bv), (11, .int (nI (lo av 4))), (12, .int (nI (lo av 8))), (13, .int (nI (lo bv 8))), (14, .int nm), (15, .int (duN x nm (nI (lo bv 8)) mm (dd + 1))), (16, .int (nI (dd + 1)))]) hc dL_law_206 rfl (nIj (by omega)) (by decide) rfl ?_
          refine rm_goto (tgt := 160) hc dL_law_209 (by decide) ?_
          exact ihE (dd + 1) _ (by omega) hE
        · --
          refine rm_iload hc dL_law_173 rfl ?_
          refine rm_iload hc dL_law_175 rfl ?_
          refine rm_ishr hc dL_law_177 (fun v_258 e_258 => ?_)
          refine rm_iconst (v := 1) hc dL_law_178 (by decide) ?_
          refine rm_iand hc dL_law_179 (fun v_259 e_259 => ?_)
          refine rm_iconst (v := 1) hc dL_law_180 (by decide) ?_
          refine rm_icmp_ne (tgt := 202) hc dL_law_181 (by decide) (fun c_260 => ?_) (fun c_260 => ?_)
          · --
            have hbit : ¬ (nI (lo bv 8) >>> (nI dd &&& 31)) &&& 1 = 1 := by rw [← e_258, ← e_259]; exact c_260
            refine rm_iconst (v := 0) hc dL_law_202 (by decide) ?_
            refine rm_ior hc dL_law_203 (fun v_261 e_261 => ?_)
            obtain rfl : v_261 = (duN x nm (nI (lo bv 8)) mm (dd + 1)) := e_261.trans (du_bit c_256 hbit).symm
            refine rm_istore (ls' := [(0, .ref b), (1, .ref (ad 8 9 0)), (2, .int 1), (3, .int (nI (T))), (4, .int (nI (t))), (5, .int (cntS x 7)), (6, .int (cntS x 0)), (7, .int (cntS x 2)), (8, .int (nI (lo sv 20))), (9, .int av), (10, .int bv), (11, .int (nI (lo av 4))), (12, .int (nI (lo av 8))), (13, .int (nI (lo bv 8))), (14, .int nm), (15, .int (duN x nm (nI (lo bv 8)) mm (dd + 1))), (16, .int (nI (dd)))]) hc dL_law_204 (by decide) rfl ?_
            refine rm_iinc (v := (nI (dd + 1))) (ls' := [(0, .ref b), (1, .ref (ad 8 9 0)), (2, .int 1), (3, .int (nI (T))), (4, .int (nI (t))), (5, .int (cntS x 7)), (6, .int (cntS x 0)), (7, .int (cntS x 2)), (8, .int (nI (lo sv 20))), (9, .int av), (10, .int bv), (11, .int (nI (lo av 4))), (12, .int (nI (lo av 8))), (13, .int (nI (lo bv 8))), (14, .int nm), (15, .int (duN x nm (nI (lo bv 8)) mm (dd + 1))), (16, .int (nI (dd + 1)))]) hc dL_law_206 rfl (nIj (by omega)) (by decide) rfl ?_
            refine rm_goto (tgt := 160) hc dL_law_209 (by decide) ?_
            exact ihE (dd + 1) _ (by omega) hE
          · --
            have hbit : (nI (lo bv 8) >>> (nI dd &&& 31)) &&& 1 = 1 := by rw [← e_258, ← e_259]; exact c_260
            refine rm_aload_n hc dL_law_184 rfl rfl ?_
            refine rm_iload hc dL_law_185 rfl ?_
            refine rm_iload hc dL_law_187 rfl ?_
            refine rm_calliV (As := [.int (nI (dd)), .int nm]) (rest := [.int (duN x nm (nI (lo bv 8)) mm dd)]) hc dL_law_189 (c_X8_ifHeard hI zm (d := dd) (by omega) mm (by omega) ((hE.at (by omega)).trans hw) (hE.flg (by omega) hF) nm c_256 hnmx) mv_L_50 dm_9 rfl rfl (hn := rfl) (hst := rfl) (hw := Nat.le_of_ble_eq_true rfl) (hR := ⟨⟨rfl, rfl⟩, Nat.le_of_ble_eq_true rfl, Nat.le_of_ble_eq_true rfl⟩) (hnc := ⟨by omega, by omega⟩) (fun r_262 y_262 h_262 => ?_)
            obtain ⟨e_262, ey_262⟩ := h_262
            have hE_262 : E7 x y_262 := hE.tr ey_262
            replace e_262 := e_262.trans hE.hrd
            refine rm_if_ne (tgt := 202) hc dL_law_192 (by decide) (fun c_263 => ?_) (fun c_263 => ?_)
            · --
              have hno : ¬ hrR x 0 dd 0 nm mm = 0 := by rw [← e_262]; exact c_263
              refine rm_iconst (v := 0) hc dL_law_202 (by decide) ?_
              refine rm_ior hc dL_law_203 (fun v_264 e_264 => ?_)
              obtain rfl : v_264 = (duN x nm (nI (lo bv 8)) mm (dd + 1)) := e_264.trans (du_no c_256 hbit hno).symm
              refine rm_istore (ls' := [(0, .ref b), (1, .ref (ad 8 9 0)), (2, .int 1), (3, .int (nI (T))), (4, .int (nI (t))), (5, .int (cntS x 7)), (6, .int (cntS x 0)), (7, .int (cntS x 2)), (8, .int (nI (lo sv 20))), (9, .int av), (10, .int bv), (11, .int (nI (lo av 4))), (12, .int (nI (lo av 8))), (13, .int (nI (lo bv 8))), (14, .int nm), (15, .int (duN x nm (nI (lo bv 8)) mm (dd + 1))), (16, .int (nI (dd)))]) hc dL_law_204 (by decide) rfl ?_
              refine rm_iinc (v := (nI (dd + 1))) (ls' := [(0, .ref b), (1, .ref (ad 8 9 0)), (2, .int 1), (3, .int (nI (T))), (4, .int (nI (t))), (5, .int (cntS x 7)), (6, .int (cntS x 0)), (7, .int (cntS x 2)), (8, .int (nI (lo sv 20))), (9, .int av), (10, .int bv), (11, .int (nI (lo av 4))), (12, .int (nI (lo av 8))), (13, .int (nI (lo bv 8))), (14, .int nm), (15, .int (duN x nm (nI (lo bv 8)) mm (dd + 1))), (16, .int (nI (dd + 1)))]) hc dL_law_206 rfl (nIj (by omega)) (by decide) rfl ?_
              refine rm_goto (tgt := 160) hc dL_law_209 (by decide) ?_
              exact ihE (dd + 1) _ (by omega) hE_262
            · --
              have hyes : hrR x 0 dd 0 nm mm = 0 := by rw [← e_262]; exact c_263
              refine rm_iconst (v := 1) hc dL_law_195 (by decide) ?_
              refine rm_iload hc dL_law_196 rfl ?_
              refine rm_ishl hc dL_law_198 (fun v_265 e_265 => ?_)
              refine rm_goto (tgt := 203) hc dL_law_199 (by decide) ?_
              refine rm_ior hc dL_law_203 (fun v_266 e_266 => ?_)
              rw [e_265] at e_266
              obtain rfl : v_266 = (duN x nm (nI (lo bv 8)) mm (dd + 1)) := e_266.trans (du_yes c_256 hbit hyes).symm
              refine rm_istore (ls' := [(0, .ref b), (1, .ref (ad 8 9 0)), (2, .int 1), (3, .int (nI (T))), (4, .int (nI (t))), (5, .int (cntS x 7)), (6, .int (cntS x 0)), (7, .int (cntS x 2)), (8, .int (nI (lo sv 20))), (9, .int av), (10, .int bv), (11, .int (nI (lo av 4))), (12, .int (nI (lo av 8))), (13, .int (nI (lo bv 8))), (14, .int nm), (15, .int (duN x nm (nI (lo bv 8)) mm (dd + 1))), (16, .int (nI (dd)))]) hc dL_law_204 (by decide) rfl ?_
              refine rm_iinc (v := (nI (dd + 1))) (ls' := [(0, .ref b), (1, .ref (ad 8 9 0)), (2, .int 1), (3, .int (nI (T))), (4, .int (nI (t))), (5, .int (cntS x 7)), (6, .int (cntS x 0)), (7, .int (cntS x 2)), (8, .int (nI (lo sv 20))), (9, .int av), (10, .int bv), (11, .int (nI (lo av 4))), (12, .int (nI (lo av 8))), (13, .int (nI (lo bv 8))), (14, .int nm), (15, .int (duN x nm (nI (lo bv 8)) mm (dd + 1))), (16, .int (nI (dd + 1)))]) hc dL_law_206 rfl (nIj (by omega)) (by decide) rfl ?_
              refine rm_goto (tgt := 160) hc dL_law_209 (by decide) ?_
              exact ihE (dd + 1) _ (by omega) hE_262
    exact keyE 3 0 _ (by omega) (E7.rf x)
  refine rm_iload hc dL_law_129 rfl ?_
  refine rm_bipush (v := 17) hc dL_law_131 (by decide) ?_
  rcases Nat.lt_or_ge (lo sv 20) 17 with hs | hs
  · --
    refine rm_icmp_ge (tgt := 146) hc dL_law_133 (by decide) (fun h => absurd h (fun h2 => absurd ((nI_leI (a := 17) (b := lo sv 20) (by omega) (by omega)).mp h2) (by omega))) (fun _ => ?_)
    refine rm_aload_n hc dL_law_136 rfl rfl ?_
    refine rm_iload hc dL_law_137 rfl ?_
    refine rm_iconst (v := 3) hc dL_law_139 (by decide) ?_
    refine rm_calliV (As := [.int (nI (lo av 4)), .int 3]) (rest := []) hc dL_law_140 (c_X8_fob hI x (j := lo av 4) (by omega) 3 (by decide) (by decide)) mv_L_34 dm_9 rfl rfl (hn := rfl) (hst := rfl) (hw := Nat.le_of_ble_eq_true rfl) (hR := ⟨⟨rfl, rfl⟩, Nat.le_of_ble_eq_true rfl, Nat.le_of_ble_eq_true rfl⟩) (hnc := ⟨by omega, by omega⟩) (fun r_268 y_268 h_268 => ?_)
    obtain ⟨e_268, ey_268⟩ := h_268
    obtain rfl := ey_268.symm
    obtain rfl : r_268 = (nxtN x 0 (lo av 4)) := e_268.trans ((lkF_e (E7.rf x)).trans (lkF_3 x _))
    refine rm_goto (tgt := 152) hc dL_law_143 (by decide) ?_
    exact key152 _ (fun _ => rfl) (fun h9 => absurd hs h9)
  · --
    refine rm_icmp_ge (tgt := 146) hc dL_law_133 (by decide) (fun _ => ?_) (fun h => absurd ((nI_leI (a := 17) (b := lo sv 20) (by omega) (by omega)).mpr (by omega)) h)
    refine rm_aload_n hc dL_law_146 rfl rfl ?_
    refine rm_iload hc dL_law_147 rfl ?_
    refine rm_calliV (As := [.int (nI (lo av 8))]) (rest := []) hc dL_law_149 (c_X8_air hI x (nI (lo av 8)) (nn_nI (by omega))) mv_L_30 dm_9 rfl rfl (hn := rfl) (hst := rfl) (hw := Nat.le_of_ble_eq_true rfl) (hR := ⟨⟨rfl, rfl⟩, Nat.le_of_ble_eq_true rfl, Nat.le_of_ble_eq_true rfl⟩) (hnc := ⟨by omega, by omega⟩) (fun r_269 y_269 h_269 => ?_)
    obtain ⟨e_269, ey_269⟩ := h_269
    obtain rfl := ey_269.symm
    obtain rfl : r_269 = (numA x 0 (nI (lo av 8))) := e_269.trans (E7.rf x).num
    exact key152 _ (fun h9 => absurd h9 (by omega)) (fun _ => rfl)
end TURN
