/-! ===== the law: its loop ===== -/
theorem sub4 : ∀ n, n < 2049 → (nI n - 4 : Int32).toInt = (n : Int) - 4 := by
  intro n hn
  rw [Int32.toInt_sub, nI_toInt (by omega)]
  have e : (4 : Int32).toInt = 4 := by decide
  rw [e]
  exact Int.bmod_eq_of_le (by omega) (by omega)
section LOOP
variable {p : Program} {l : Launch} {e : Env} {s : State} {m : MethodId} {args : Array Value} {below : List Frame} {meth : Method} {c : Code} {D : va_G} {cy : Nat → ClassId} {ad : Ads} {Q : State → Prop} {b L : Nat} {xs : Nat → Int32}
theorem law_step (h : LW p s m args meth c D cy ad l b L xs) {t : Nat} {x : Mem} (hi : INV x x (60 * t)) (ht : t ≤ 513) (hend : RM p l e room_1 s m args below meth c 9 (AA ad s.heap.size) (GG D cy ad x) (214 + t) (1898 + 6 * t) Q 1643 [] [])
    (kk : 4 * t + 4 ≤ L → ∀ x' : Mem, INV x' x' (60 * t + 60) → RM p l e room_1 s m args below meth c 9 (AA ad s.heap.size) (GG D cy ad x') (214 + t + 1) (1898 + 6 * t + 6) Q 23 (l5 ad b (t + 1)) []) : RM p l e room_1 s m args below meth c 9 (AA ad s.heap.size) (GG D cy ad x) (214 + t) (1898 + 6 * t) Q 23 (l5 ad b t) [] := by
  have h' := h
  obtain ⟨hc, hX, hfl, hsc, hbl, hbA, hL⟩ := h'
  refine rm_iload hc dL_law_23 rfl ?_
  refine rm_aload_n hc dL_law_25 rfl rfl ?_
  refine rm_slen hc hsc hbl hbA dL_law_26 ?_
  refine rm_iconst (v := 4) hc dL_law_27 (by decide) ?_
  refine rm_isub hc dL_law_28 (fun v ev => ?_)
  refine rm_icmp_gt (tgt := 1643) hc dL_law_29 (by decide) (fun _ => rm_sub [] rfl hend) (fun hle => ?_)
  have ht4 : 4 * t + 4 ≤ L := by
    rcases Nat.lt_or_ge L (4 * t + 4) with q | q
    · refine absurd ?_ hle
      rw [ev, Int32.lt_iff_toInt_lt, sub4 L (by omega), nI_toInt (by omega)]
      omega
    · exact q
  refine rm_aload_n hc dL_law_32 rfl rfl ?_
  refine rm_iload hc dL_law_33 rfl ?_
  refine rm_sld hc hsc hbl hbA dL_law_35 (i := 4 * t) (by omega) (by omega) rfl ?_
  refine rm_bipush (v := 31) hc dL_law_36 (by decide) ?_
  refine rm_iand hc dL_law_38 (fun v2 ev2 => ?_)
  obtain ⟨w, hw, ew⟩ := m31 (xs (4 * t))
  obtain rfl : v2 = nI w := ev2.trans ew
  have hnc : 214 + t + 1 ≤ room_1.cells ∧ 1898 + 6 * t + 6 ≤ room_1.slots := by
    show 214 + t + 1 ≤ 642736 ∧ 1898 + 6 * t + 6 ≤ 7167896
    omega
  have back : ∀ x' : Mem, INV x' x' (60 * t + 60) → RM p l e room_1 s m args below meth c 9 (AA ad s.heap.size) (GG D cy ad x') (214 + t + 1) (1898 + 6 * t + 6) Q 1637 (l5 ad b t) [] := fun x' hx' => by
    refine rm_iinc (v := nI (4 * (t + 1))) (ls' := l5 ad b (t + 1)) hc dL_law_1637 rfl (nI_add (4 * t) 4) (by omega) rfl ?_
    refine rm_goto (tgt := 23) hc dL_law_1640 (by decide) ?_
    exact kk ht4 x' hx'
  have hB : 3 * (60 * t) < 2 ^ 20 := by omega
  rcases Nat.lt_or_ge w 26 with hw26 | hw26
  · rcases (show w = 0 ∨ w = 1 ∨ w = 2 ∨ w = 3 ∨ w = 4 ∨ w = 5 ∨ w = 6 ∨ w = 7 ∨ w = 8 ∨ w = 9 ∨ w = 10 ∨ w = 11 ∨ w = 12 ∨ w = 13 ∨ w = 14 ∨ w = 15 ∨ w = 16 ∨ w = 17 ∨ w = 18 ∨ w = 19 ∨ w = 20 ∨ w = 21 ∨ w = 22 ∨ w = 23 ∨ w = 24 ∨ w = 25 by omega) with q | q | q | q | q | q | q | q | q | q | q | q | q | q | q | q | q | q | q | q | q | q | q | q | q | q <;> subst q
    · exact rm_tin (off := 117) (tgt := 156) hc dL_law_39 (by decide) (by decide) rfl (by decide) (law_make h hi hB ht4 hnc back)
    · exact rm_tin (off := 197) (tgt := 236) hc dL_law_39 (by decide) (by decide) rfl (by decide) (law_battery h hi hB ht4 hnc back)
    · exact rm_tin (off := 265) (tgt := 304) hc dL_law_39 (by decide) (by decide) rfl (by decide) (law_press h hi hB ht4 hnc back)
    · exact rm_tin (off := 333) (tgt := 372) hc dL_law_39 (by decide) (by decide) rfl (by decide) (law_again h hi hB ht4 hnc back)
    · exact rm_tin (off := 401) (tgt := 440) hc dL_law_39 (by decide) (by decide) rfl (by decide) (law_learn h hi hB ht4 hnc back)
    · exact rm_tin (off := 481) (tgt := 520) hc dL_law_39 (by decide) (by decide) rfl (by decide) (law_forget h hi hB ht4 hnc back)
    · exact rm_tin (off := 549) (tgt := 588) hc dL_law_39 (by decide) (by decide) rfl (by decide) (law_shut h hi hB ht4 hnc back)
    · exact rm_tin (off := 605) (tgt := 644) hc dL_law_39 (by decide) (by decide) rfl (by decide) (law_unlock h hi hB ht4 hnc back)
    · exact rm_tin (off := 661) (tgt := 700) hc dL_law_39 (by decide) (by decide) rfl (by decide) (law_set h hi hB ht4 hnc back)
    · exact rm_tin (off := 729) (tgt := 768) hc dL_law_39 (by decide) (by decide) rfl (by decide) (law_append h hi ht4 hnc back)
    · exact rm_tin (off := 785) (tgt := 824) hc dL_law_39 (by decide) (by decide) rfl (by decide) (law_clearBuffer h hi ht4 hnc back)
    · exact rm_tin (off := 798) (tgt := 837) hc dL_law_39 (by decide) (by decide) rfl (by decide) (law_firstError h hi ht4 hnc back)
    · exact rm_tin (off := 811) (tgt := 850) hc dL_law_39 (by decide) (by decide) rfl (by decide) (law_play h hi hB ht4 hnc back)
    · exact rm_tin (off := 855) (tgt := 894) hc dL_law_39 (by decide) (by decide) rfl (by decide) (law_undo h hi hB ht4 hnc back)
    · exact rm_tin (off := 899) (tgt := 938) hc dL_law_39 (by decide) (by decide) rfl (by decide) (law_fob h hi ht4 hnc back)
    · exact rm_tin (off := 967) (tgt := 1006) hc dL_law_39 (by decide) (by decide) rfl (by decide) (law_slot h hi ht4 hnc back)
    · exact rm_tin (off := 1047) (tgt := 1086) hc dL_law_39 (by decide) (by decide) rfl (by decide) (law_door h hi ht4 hnc back)
    · exact rm_tin (off := 1115) (tgt := 1154) hc dL_law_39 (by decide) (by decide) rfl (by decide) (law_air h hi ht4 hnc back)
    · exact rm_tin (off := 1171) (tgt := 1210) hc dL_law_39 (by decide) (by decide) rfl (by decide) (law_count h hi ht4 hnc back)
    · exact rm_tin (off := 1227) (tgt := 1266) hc dL_law_39 (by decide) (by decide) rfl (by decide) (law_setting h hi ht4 hnc back)
    · exact rm_tin (off := 1283) (tgt := 1322) hc dL_law_39 (by decide) (by decide) rfl (by decide) (law_ifHeard h hi ht4 hnc back)
    · exact rm_tin (off := 1351) (tgt := 1390) hc dL_law_39 (by decide) (by decide) rfl (by decide) (law_opensIn h hi ht4 hnc back)
    · exact rm_tin (off := 1419) (tgt := 1458) hc dL_law_39 (by decide) (by decide) rfl (by decide) (law_unheard h hi ht4 hnc back)
    · exact rm_tin (off := 1487) (tgt := 1526) hc dL_law_39 (by decide) (by decide) rfl (by decide) (law_useful h hi ht4 hnc back)
    · exact rm_tin (off := 1543) (tgt := 1582) hc dL_law_39 (by decide) (by decide) rfl (by decide) (law_openShare h hi hB ht4 hnc back)
    · exact rm_tin (off := 1584) (tgt := 1623) hc dL_law_39 (by decide) (by decide) rfl (by decide) (law_digest h hi hB ht4 hnc back)
  · refine rm_tout (tgt := 1637) hc dL_law_39 (Or.inr ?_) (by decide) (rm_wid (by omega) (by omega) (back x (hi.fr (by omega) (fun _ _ => rfl) rfl rfl rfl rfl rfl rfl rfl)))
    rw [nI_toInt (by omega)]
    omega
theorem law_loop (h : LW p s m args meth c D cy ad l b L xs) (hend : ∀ (x : Mem) (nc ns : Nat), nc ≤ 642736 → ns ≤ 7167896 → RM p l e room_1 s m args below meth c 9 (AA ad s.heap.size) (GG D cy ad x) nc ns Q 1643 [] []) : ∀ (f t : Nat) (x : Mem), f + t = 513 → INV x x (60 * t) → RM p l e room_1 s m args below meth c 9 (AA ad s.heap.size) (GG D cy ad x) (214 + t) (1898 + 6 * t) Q 23 (l5 ad b t) []
  | 0, t, x, ef, hi => law_step h hi (by omega) (hend x _ _ (by omega) (by omega)) (fun q => absurd q (by have := h.2.2.2.2.2.2; omega))
  | f + 1, t, x, ef, hi => law_step h hi (by omega) (hend x _ _ (by omega) (by omega)) (fun q x' hx' => rm_wid (by omega) (by omega) (law_loop h hend f (t + 1) x' (by omega) hx'))
end LOOP
