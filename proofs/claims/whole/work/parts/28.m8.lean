abbrev rm_X8_play : Room := { frames := 7, cells := 0, slots := 0, locals := 143 }
set_option maxHeartbeats 4000000 in
set_option maxRecDepth 100000 in
theorem c_X8_play {l : Launch} {D : va_G} {cy : Nat → ClassId} {ad : Ads} (hI : IJ ad) (x : Mem) {tl nq nr : Nat} (htl : x 8 2 = nI tl) (ht6 : tl ≤ 60) (hcomp : compS (feS x tl 0 0) = 1) (hPW : PWs x tl) (hn6 : nq < 6) (hnq : NXT x nq 0) (hF : FLG x 0) (mm : Nat) (hmm : mm < 2 ^ 30) (hw : x 0 1 = nI mm) (hnr : x 0 5 = nI nr) (hr8 : nr ≤ 8) : Cti l yX8_play cX8_play 4 (some .int) rm_X8_play D cy ad [.ref (ad 8 9 0)] x (fun r y => r = nI (plS mm (tl + 1) (kpM x nq) 0 0 0).1 ∧ y = up (plS mm (tl + 1) (kpM x nq) 0 0 0).2 8 2 0) := by
  refine rm_entry (Qc := Qi D cy ad (fun r y => r = nI (plS mm (tl + 1) (kpM x nq) 0 0 0).1 ∧ y = up (plS mm (tl + 1) (kpM x nq) 0 0 0).2 8 2 0)) hI (by decide) (Nat.le_of_ble_eq_true rfl) ?_
  intro p e s m args below meth c hc
  show RM _ _ _ _ _ _ _ _ _ _ _ _ _ _ _ _ _ [(0, .ref (ad 8 9 0))] []
  refine rm_aload_n hc dX8_play_0 rfl rfl ?_
  refine rm_get hc dX8_play_1 fl_X8_26 dm_9 rfl rfl ?_
  refine rm_calliV (As := []) (rest := []) hc dX8_play_4 (c_X7_isComplete hI x (tl := tl) htl (by omega)) mv_X8_147 dm_12 rfl rfl (hn := rfl) (hst := rfl) (hw := Nat.le_of_ble_eq_true rfl) (hR := ⟨⟨rfl, rfl⟩, Nat.le_of_ble_eq_true rfl, Nat.le_of_ble_eq_true rfl⟩) (hnc := ⟨Nat.zero_le _, Nat.zero_le _⟩) (fun r_1 y_1 h_1 => ?_)
  obtain ⟨e_1, ey_1⟩ := h_1
  obtain rfl := ey_1.symm
  obtain rfl : r_1 = 1 := e_1.trans hcomp
  refine rm_callvS (As := [.int 1]) (rest := []) hc dX8_play_7 (c_X8_needArgument hI x) ms_X8_151 (hn := rfl) (hst := rfl) (hw := Nat.le_of_ble_eq_true rfl) (hR := ⟨⟨rfl, rfl⟩, Nat.le_of_ble_eq_true rfl, Nat.le_of_ble_eq_true rfl⟩) (hnc := ⟨Nat.zero_le _, Nat.zero_le _⟩) (fun y_2 h_2 => ?_)
  obtain rfl := h_2.symm
  refine rm_aload_n hc dX8_play_10 rfl rfl ?_
  refine rm_get hc dX8_play_11 fl_X8_19 dm_9 rfl rfl ?_
  refine rm_aload_n hc dX8_play_14 rfl rfl ?_
  refine rm_get hc dX8_play_15 fl_X8_10 dm_9 rfl rfl ?_
  refine rm_callvV (As := [.ref (ad 0 0 0)]) (rest := []) hc dX8_play_18 (c_X3_keep hI x (nq := nq) hn6 hnq hF) mv_X8_45 dm_10 rfl rfl (hn := rfl) (hst := rfl) (hw := Nat.le_of_ble_eq_true rfl) (hR := ⟨⟨rfl, rfl⟩, Nat.le_of_ble_eq_true rfl, Nat.le_of_ble_eq_true rfl⟩) (hnc := ⟨Nat.zero_le _, Nat.zero_le _⟩) (fun y_3 h_3 => ?_)
  refine rm_iconst (v := 0) hc dX8_play_21 (by decide) ?_
  refine rm_istore_n (ls' := [(0, .ref (ad 8 9 0)), (1, .int 0)]) hc dX8_play_22 rfl (by decide) rfl ?_
  refine rm_iconst (v := 0) hc dX8_play_23 (by decide) ?_
  refine rm_istore_n (ls' := [(0, .ref (ad 8 9 0)), (1, .int 0), (2, .int 0)]) hc dX8_play_24 rfl (by decide) rfl ?_
  refine rm_iconst (v := 0) hc dX8_play_25 (by decide) ?_
  refine rm_istore_n (ls' := [(0, .ref (ad 8 9 0)), (1, .int 0), (2, .int 0), (3, .int 0)]) hc dX8_play_26 rfl (by decide) rfl ?_
  have key27 : ∀ (f : Nat) (sa i dn : Nat) (zm : Mem), i + f = tl + 1 → TI (kpM x nq) zm mm → JJ x tl sa i → plS mm f zm sa i dn = plS mm (tl + 1) (kpM x nq) 0 0 0 → RM p l e rm_X8_play s m args below meth c 4 (AA ad s.heap.size) (GG D cy ad zm) 0 0 (QQ (Qi D cy ad (fun r y => r = nI (plS mm (tl + 1) (kpM x nq) 0 0 0).1 ∧ y = up (plS mm (tl + 1) (kpM x nq) 0 0 0).2 8 2 0)) below args s ad) 27 [(0, .ref (ad 8 9 0)), (1, .int (nI (dn))), (2, .int (nI (sa))), (3, .int (nI (i)))] [] := by
    intro f
    induction f with
    | zero =>
      intro sa i dn zm hif hTI hJ hst
      have h82 : zm 8 2 = nI tl := by rw [hTI.1 8 (by omega), kpM_82 hn6]; exact htl
      have h9 : zm 9 = x 9 := (hTI.1 9 (by omega)).trans (funext fun n => kpM_9 (by omega) (by omega))
      have hcb := code_b (x := x) (h82.trans htl.symm) h9
      have hdb := dig_b (x := x) (h82.trans htl.symm) h9
      refine rm_iload_n hc dX8_play_27 rfl rfl ?_
      refine rm_aload_n hc dX8_play_28 rfl rfl ?_
      refine rm_get hc dX8_play_29 fl_X8_26 dm_9 rfl rfl ?_
      refine rm_geti hc dX8_play_32 fl_X8_139 dm_12 rfl rfl (fun v_4 e_4 => ?_)
      obtain rfl : v_4 = nI tl := e_4.trans h82
      refine rm_icmp_gt (tgt := 74) hc dX8_play_35 (by decide) (fun _ => ?_) (fun h => absurd ((nI_ltI (a := tl) (b := i) (by omega) (by omega)).mpr (by omega)) h)
      refine rm_aload_n hc dX8_play_74 rfl rfl ?_
      refine rm_get hc dX8_play_75 fl_X8_26 dm_9 rfl rfl ?_
      refine rm_iconst (v := 0) hc dX8_play_78 (by decide) ?_
      refine rm_put hc dX8_play_79 fl_X8_139 dm_12 rfl (Nat.le_of_ble_eq_true rfl) ft_7_1 rfl rfl so_12_1 (rm_nm (fun x_6 ex_6 => ?_))
      refine rm_iload_n hc dX8_play_82 rfl rfl ?_
      exact rm_iret hc dX8_play_83 ⟨by rw [← hst]; rfl, by rw [ex_6, ← hst]; rfl⟩
    | succ f ih =>
      intro sa i dn zm hif hTI hJ hst
      have h82 : zm 8 2 = nI tl := by rw [hTI.1 8 (by omega), kpM_82 hn6]; exact htl
      have h9 : zm 9 = x 9 := (hTI.1 9 (by omega)).trans (funext fun n => kpM_9 (by omega) (by omega))
      have hcb := code_b (x := x) (h82.trans htl.symm) h9
      have hdb := dig_b (x := x) (h82.trans htl.symm) h9
      refine rm_iload_n hc dX8_play_27 rfl rfl ?_
      refine rm_aload_n hc dX8_play_28 rfl rfl ?_
      refine rm_get hc dX8_play_29 fl_X8_26 dm_9 rfl rfl ?_
      refine rm_geti hc dX8_play_32 fl_X8_139 dm_12 rfl rfl (fun v_7 e_7 => ?_)
      obtain rfl : v_7 = nI tl := e_7.trans h82
      refine rm_icmp_gt (tgt := 74) hc dX8_play_35 (by decide) (fun h => absurd h (fun h2 => absurd ((nI_ltI (a := tl) (b := i) (by omega) (by omega)).mp h2) (by omega))) (fun _ => ?_)
      refine rm_aload_n hc dX8_play_38 rfl rfl ?_
      refine rm_get hc dX8_play_39 fl_X8_26 dm_9 rfl rfl ?_
      refine rm_iload_n hc dX8_play_42 rfl rfl ?_
      refine rm_calliV (As := [.int (nI (i))]) (rest := []) hc dX8_play_43 (c_X7_endsPart hI zm (nI (i))) mv_X8_154 dm_12 rfl rfl (hn := rfl) (hst := rfl) (hw := Nat.le_of_ble_eq_true rfl) (hR := ⟨⟨rfl, rfl⟩, Nat.le_of_ble_eq_true rfl, Nat.le_of_ble_eq_true rfl⟩) (hnc := ⟨Nat.zero_le _, Nat.zero_le _⟩) (fun r_9 y_9 h_9 => ?_)
      obtain ⟨e_9, ey_9⟩ := h_9
      obtain rfl := ey_9.symm
      refine rm_if_eq (tgt := 68) hc dX8_play_46 (by decide) (fun c_10 => ?_) (fun c_10 => ?_)
      · --
        have hE : endS zm (nI i) = 0 := e_9.symm.trans c_10
        refine rm_iinc (v := (nI (i + 1))) (ls' := [(0, .ref (ad 8 9 0)), (1, .int (nI (dn))), (2, .int (nI (sa))), (3, .int (nI (i + 1)))]) hc dX8_play_68 rfl (nIj (by omega)) (by decide) rfl ?_
        refine rm_goto (tgt := 27) hc dX8_play_71 (by decide) ?_
        exact ih sa (i + 1) dn zm (by omega) hTI (hJ.n (by omega) (by rw [← hcb]; exact (end_0 h82 (by omega) (by omega) hE).2)) (by rw [← hst, pl_n hE])
      · --
        have hE : ¬ endS zm (nI i) = 0 := fun h9 => c_10 (e_9.trans h9)
        refine rm_aload_n hc dX8_play_49 rfl rfl ?_
        refine rm_iload_n hc dX8_play_50 rfl rfl ?_
        refine rm_iload_n hc dX8_play_51 rfl rfl ?_
        have hE1 : i = tl ∨ codeS x (nI i) = 59 := by rw [← hcb]; exact end_1 h82 (by omega) (by omega) hE
        obtain ⟨hab, q, hdq, hk⟩ := hJ.p hPW (by omega) hE1
        obtain ⟨nr, hr8, hnr⟩ := hTI.2.2
        rcases hk with ⟨hcd, hq4⟩ | ⟨hcd, hq4⟩ | ⟨hcd, hq4⟩
        · --
          refine rm_calliV (As := [.int (nI (sa)), .int (nI (i))]) (rest := []) hc dX8_play_52 (c_X8_playPart hI zm (aa := sa) (bb := i) (q := q) (nr := nr) (by omega) (by omega) ((hdb _).trans hdq) (by omega) ((hcb _).trans hcd) mm (by omega) hTI.2.1 hnr hr8) mv_X8_157 dm_9 rfl rfl (hn := rfl) (hst := rfl) (hw := Nat.le_of_ble_eq_true rfl) (hR := ⟨⟨rfl, rfl⟩, Nat.le_of_ble_eq_true rfl, Nat.le_of_ble_eq_true rfl⟩) (hnc := ⟨Nat.zero_le _, Nat.zero_le _⟩) (fun r_11 y_11 h_11 => ?_)
          obtain ⟨e_11, ey_11⟩ := h_11
          refine rm_if_ne (tgt := 61) hc dX8_play_55 (by decide) (fun c_12 => ?_) (fun c_12 => ?_)
          · --
            have hp : ¬ (ppS zm sa i mm).1 = 0 := fun h9 => c_12 (e_11.trans h9)
            refine rm_iinc (v := (nI (dn + 1))) (ls' := [(0, .ref (ad 8 9 0)), (1, .int (nI (dn + 1))), (2, .int (nI (sa))), (3, .int (nI (i)))]) hc dX8_play_61 rfl (nIj (by omega)) (by decide) rfl ?_
            refine rm_iload_n hc dX8_play_64 rfl rfl ?_
            refine rm_iconst (v := 1) hc dX8_play_65 (by decide) ?_
            refine rm_iadd hc dX8_play_66 (fun v_13 e_13 => ?_)
            obtain rfl : v_13 = (nI (i + 1)) := e_13.trans (nadd (m := i) (n := 1) (by omega))
            clear e_13
            refine rm_istore_n (ls' := [(0, .ref (ad 8 9 0)), (1, .int (nI (dn + 1))), (2, .int (nI (i + 1))), (3, .int (nI (i)))]) hc dX8_play_67 rfl (by decide) rfl ?_
            refine rm_iinc (v := (nI (i + 1))) (ls' := [(0, .ref (ad 8 9 0)), (1, .int (nI (dn + 1))), (2, .int (nI (i + 1))), (3, .int (nI (i + 1)))]) hc dX8_play_68 rfl (nIj (by omega)) (by decide) rfl ?_
            refine rm_goto (tgt := 27) hc dX8_play_71 (by decide) ?_
            exact ih (i + 1) (i + 1) (dn + 1) _ (by omega) (by rw [ey_11]; exact hTI.pp) (hJ.y hPW (by omega) hE1) (by rw [← hst, pl_y hE hp, ey_11])
          · --
            have hp : (ppS zm sa i mm).1 = 0 := e_11.symm.trans c_12
            refine rm_goto (tgt := 74) hc dX8_play_58 (by decide) ?_
            refine rm_aload_n hc dX8_play_74 rfl rfl ?_
            refine rm_get hc dX8_play_75 fl_X8_26 dm_9 rfl rfl ?_
            refine rm_iconst (v := 0) hc dX8_play_78 (by decide) ?_
            refine rm_put hc dX8_play_79 fl_X8_139 dm_12 rfl (Nat.le_of_ble_eq_true rfl) ft_7_1 rfl rfl so_12_1 (rm_nm (fun x_14 ex_14 => ?_))
            refine rm_iload_n hc dX8_play_82 rfl rfl ?_
            exact rm_iret hc dX8_play_83 ⟨by rw [← hst, pl_0 hE hp], by rw [ex_14, ← hst, pl_0 hE hp, ey_11]⟩
        · --_r
          refine rm_calliV (As := [.int (nI (sa)), .int (nI (i))]) (rest := []) hc dX8_play_52 (c_X8_playPart_r hI zm (aa := sa) (bb := i) (q := q) (nr := nr) (by omega) (by omega) ((hdb _).trans hdq) (by omega) ((hcb _).trans hcd) mm (by omega) hTI.2.1 hnr hr8) mv_X8_157 dm_9 rfl rfl (hn := rfl) (hst := rfl) (hw := Nat.le_of_ble_eq_true rfl) (hR := ⟨⟨rfl, rfl⟩, Nat.le_of_ble_eq_true rfl, Nat.le_of_ble_eq_true rfl⟩) (hnc := ⟨Nat.zero_le _, Nat.zero_le _⟩) (fun r_15 y_15 h_15 => ?_)
          obtain ⟨e_15, ey_15⟩ := h_15
          refine rm_if_ne (tgt := 61) hc dX8_play_55 (by decide) (fun c_16 => ?_) (fun c_16 => ?_)
          · --
            have hp : ¬ (ppS zm sa i mm).1 = 0 := fun h9 => c_16 (e_15.trans h9)
            refine rm_iinc (v := (nI (dn + 1))) (ls' := [(0, .ref (ad 8 9 0)), (1, .int (nI (dn + 1))), (2, .int (nI (sa))), (3, .int (nI (i)))]) hc dX8_play_61 rfl (nIj (by omega)) (by decide) rfl ?_
            refine rm_iload_n hc dX8_play_64 rfl rfl ?_
            refine rm_iconst (v := 1) hc dX8_play_65 (by decide) ?_
            refine rm_iadd hc dX8_play_66 (fun v_17 e_17 => ?_)
            obtain rfl : v_17 = (nI (i + 1)) := e_17.trans (nadd (m := i) (n := 1) (by omega))
            clear e_17
            refine rm_istore_n (ls' := [(0, .ref (ad 8 9 0)), (1, .int (nI (dn + 1))), (2, .int (nI (i + 1))), (3, .int (nI (i)))]) hc dX8_play_67 rfl (by decide) rfl ?_
            refine rm_iinc (v := (nI (i + 1))) (ls' := [(0, .ref (ad 8 9 0)), (1, .int (nI (dn + 1))), (2, .int (nI (i + 1))), (3, .int (nI (i + 1)))]) hc dX8_play_68 rfl (nIj (by omega)) (by decide) rfl ?_
            refine rm_goto (tgt := 27) hc dX8_play_71 (by decide) ?_
            exact ih (i + 1) (i + 1) (dn + 1) _ (by omega) (by rw [ey_15]; exact hTI.pp) (hJ.y hPW (by omega) hE1) (by rw [← hst, pl_y hE hp, ey_15])
          · --
            have hp : (ppS zm sa i mm).1 = 0 := e_15.symm.trans c_16
            refine rm_goto (tgt := 74) hc dX8_play_58 (by decide) ?_
            refine rm_aload_n hc dX8_play_74 rfl rfl ?_
            refine rm_get hc dX8_play_75 fl_X8_26 dm_9 rfl rfl ?_
            refine rm_iconst (v := 0) hc dX8_play_78 (by decide) ?_
            refine rm_put hc dX8_play_79 fl_X8_139 dm_12 rfl (Nat.le_of_ble_eq_true rfl) ft_7_1 rfl rfl so_12_1 (rm_nm (fun x_18 ex_18 => ?_))
            refine rm_iload_n hc dX8_play_82 rfl rfl ?_
            exact rm_iret hc dX8_play_83 ⟨by rw [← hst, pl_0 hE hp], by rw [ex_18, ← hst, pl_0 hE hp, ey_15]⟩
        · --_c
          refine rm_calliV (As := [.int (nI (sa)), .int (nI (i))]) (rest := []) hc dX8_play_52 (c_X8_playPart_c hI zm (aa := sa) (bb := i) (q := q) (nr := nr) (by omega) (by omega) ((hdb _).trans hdq) (by omega) ((hcb _).trans hcd) mm (by omega) hTI.2.1 hnr hr8) mv_X8_157 dm_9 rfl rfl (hn := rfl) (hst := rfl) (hw := Nat.le_of_ble_eq_true rfl) (hR := ⟨⟨rfl, rfl⟩, Nat.le_of_ble_eq_true rfl, Nat.le_of_ble_eq_true rfl⟩) (hnc := ⟨Nat.zero_le _, Nat.zero_le _⟩) (fun r_19 y_19 h_19 => ?_)
          obtain ⟨e_19, ey_19⟩ := h_19
          refine rm_if_ne (tgt := 61) hc dX8_play_55 (by decide) (fun c_20 => ?_) (fun c_20 => ?_)
          · --
            have hp : ¬ (ppS zm sa i mm).1 = 0 := fun h9 => c_20 (e_19.trans h9)
            refine rm_iinc (v := (nI (dn + 1))) (ls' := [(0, .ref (ad 8 9 0)), (1, .int (nI (dn + 1))), (2, .int (nI (sa))), (3, .int (nI (i)))]) hc dX8_play_61 rfl (nIj (by omega)) (by decide) rfl ?_
            refine rm_iload_n hc dX8_play_64 rfl rfl ?_
            refine rm_iconst (v := 1) hc dX8_play_65 (by decide) ?_
            refine rm_iadd hc dX8_play_66 (fun v_21 e_21 => ?_)
            obtain rfl : v_21 = (nI (i + 1)) := e_21.trans (nadd (m := i) (n := 1) (by omega))
            clear e_21
            refine rm_istore_n (ls' := [(0, .ref (ad 8 9 0)), (1, .int (nI (dn + 1))), (2, .int (nI (i + 1))), (3, .int (nI (i)))]) hc dX8_play_67 rfl (by decide) rfl ?_
            refine rm_iinc (v := (nI (i + 1))) (ls' := [(0, .ref (ad 8 9 0)), (1, .int (nI (dn + 1))), (2, .int (nI (i + 1))), (3, .int (nI (i + 1)))]) hc dX8_play_68 rfl (nIj (by omega)) (by decide) rfl ?_
            refine rm_goto (tgt := 27) hc dX8_play_71 (by decide) ?_
            exact ih (i + 1) (i + 1) (dn + 1) _ (by omega) (by rw [ey_19]; exact hTI.pp) (hJ.y hPW (by omega) hE1) (by rw [← hst, pl_y hE hp, ey_19])
          · --
            have hp : (ppS zm sa i mm).1 = 0 := e_19.symm.trans c_20
            refine rm_goto (tgt := 74) hc dX8_play_58 (by decide) ?_
            refine rm_aload_n hc dX8_play_74 rfl rfl ?_
            refine rm_get hc dX8_play_75 fl_X8_26 dm_9 rfl rfl ?_
            refine rm_iconst (v := 0) hc dX8_play_78 (by decide) ?_
            refine rm_put hc dX8_play_79 fl_X8_139 dm_12 rfl (Nat.le_of_ble_eq_true rfl) ft_7_1 rfl rfl so_12_1 (rm_nm (fun x_22 ex_22 => ?_))
            refine rm_iload_n hc dX8_play_82 rfl rfl ?_
            exact rm_iret hc dX8_play_83 ⟨by rw [← hst, pl_0 hE hp], by rw [ex_22, ← hst, pl_0 hE hp, ey_19]⟩
  exact key27 (tl + 1) 0 0 0 _ (by omega) (by rw [h_3]; exact ⟨fun b hb => rfl, kpM_0.trans hw, nr, hr8, kpM_0.trans hnr⟩) (fun _ => ⟨rfl, Nat.le_refl _, fun n a b => absurd b (by omega)⟩) (by rw [h_3])
