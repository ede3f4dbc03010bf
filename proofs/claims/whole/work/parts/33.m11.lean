def mI (s : Nat) : Int32 := if s = 4 then -1 else nI s
theorem mI_lt {s : Nat} (h : s < 4) : mI s = nI s := if_neg (by omega)
abbrev rm_X9_looks : Room := { frames := 1, cells := 0, slots := 0, locals := 21 }
set_option maxHeartbeats 4000000 in
set_option maxRecDepth 100000 in
theorem c_X9_looks {l : Launch} {D : va_G} {cy : Nat → ClassId} {ad : Ads} (hI : IJ ad) (x : Mem) {k d : Nat} (hk : k = 10 ∨ k = 11) (hd3 : d < 3) (num : Int32) (hRS : RS (x k)) (mm : Nat) (hmm : mm ≤ 500) (hw : x k 1 = nI mm) : Ctv l yX9_looks cX9_looks 7 none rm_X9_looks D cy ad [.ref (ad 15 14 0), .ref (ad k 15 0), .int (nI (d)), .int num] x (fun y => M7 x y ∧ y 15 6 = mI (mean x k d num mm).1 ∧ y 15 7 = nI (mean x k d num mm).2) := by
  refine rm_entry (Qc := Qv D cy ad (fun y => M7 x y ∧ y 15 6 = mI (mean x k d num mm).1 ∧ y 15 7 = nI (mean x k d num mm).2)) hI (by decide) (Nat.le_of_ble_eq_true rfl) ?_
  intro p e s m args below meth c hc
  show RM _ _ _ _ _ _ _ _ _ _ _ _ _ _ _ _ _ [(0, .ref (ad 15 14 0)), (1, .ref (ad k 15 0)), (2, .int (nI (d))), (3, .int num)] []
  refine rm_aload_n hc dX9_looks_0 rfl rfl ?_
  refine rm_iconst (v := -1) hc dX9_looks_1 (by decide) ?_
  refine rm_put hc dX9_looks_2 fl_X9_50 dm_14 rfl (Nat.le_of_ble_eq_true rfl) ft_9_11 rfl rfl so_14_11 (rm_nm (fun x_1 ex_1 => ?_))
  refine rm_aload_n hc dX9_looks_5 rfl rfl ?_
  refine rm_iconst (v := 0) hc dX9_looks_6 (by decide) ?_
  refine rm_put hc dX9_looks_7 fl_X9_53 dm_14 rfl (Nat.le_of_ble_eq_true rfl) ft_9_12 rfl rfl so_14_12 (rm_nm (fun x_2 ex_2 => ?_))
  refine rm_iconst (v := 0) hc dX9_looks_10 (by decide) ?_
  refine rm_istore (ls' := [(0, .ref (ad 15 14 0)), (1, .ref (ad k 15 0)), (2, .int (nI (d))), (3, .int num), (4, .int 0)]) hc dX9_looks_11 (by decide) rfl ?_
  have hM0 : M7 x x_2 := by subst_vars; exact ((M7.rf x).u6 _).u7 _
  have h60 : x_2 15 6 = -1 := by subst_vars; rw [up_n _ _ (by omega)]; exact up_s _ _ _ _
  have h70 : x_2 15 7 = 0 := by subst_vars; exact up_s _ _ _ _
  have key13 : ∀ (f : Nat) (s0 : Nat) (zm : Mem), s0 + f = 4 → M7 x zm → zm 15 6 = -1 → zm 15 7 = 0 → mt x k d num mm f s0 = mean x k d num mm → RM p l e rm_X9_looks s m args below meth c 7 (AA ad s.heap.size) (GG D cy ad zm) 0 0 (QQ (Qv D cy ad (fun y => M7 x y ∧ y 15 6 = mI (mean x k d num mm).1 ∧ y 15 7 = nI (mean x k d num mm).2)) below args s ad) 13 [(0, .ref (ad 15 14 0)), (1, .ref (ad k 15 0)), (2, .int (nI (d))), (3, .int num), (4, .int (nI (s0)))] [] := by
    intro f
    induction f with
    | zero =>
      intro s0 zm hif hM h6 h7 hmt
      refine rm_iload hc dX9_looks_13 rfl ?_
      refine rm_iconst (v := 4) hc dX9_looks_15 (by decide) ?_
      refine rm_icmp_ge (tgt := 110) hc dX9_looks_16 (by decide) (fun _ => ?_) (fun h => absurd ((nI_leI (a := 4) (b := s0) (by omega) (by omega)).mpr (by omega)) h)
      exact rm_vret hc dX9_looks_110 ⟨hM, by rw [← hmt]; exact h6, by rw [← hmt]; exact h7⟩
    | succ f ih =>
      intro s0 zm hif hM h6 h7 hmt
      refine rm_iload hc dX9_looks_13 rfl ?_
      refine rm_iconst (v := 4) hc dX9_looks_15 (by decide) ?_
      refine rm_icmp_ge (tgt := 110) hc dX9_looks_16 (by decide) (fun h => absurd h (fun h2 => absurd ((nI_leI (a := 4) (b := s0) (by omega) (by omega)).mp h2) (by omega))) (fun _ => ?_)
      refine rm_aload_n hc dX9_looks_19 rfl rfl ?_
      refine rm_geti hc dX9_looks_20 fl_X9_50 dm_14 rfl rfl (fun v_5 e_5 => ?_)
      obtain rfl : v_5 = -1 := e_5.trans h6
      refine rm_iconst (v := -1) hc dX9_looks_23 (by decide) ?_
      refine rm_icmp_ne (tgt := 110) hc dX9_looks_24 (by decide) (fun h => absurd h (by decide)) (fun _ => ?_)
      refine rm_iload_n hc dX9_looks_27 rfl rfl ?_
      refine rm_iload hc dX9_looks_28 rfl ?_
      refine rm_calliS (As := [.int (nI (d)), .int (nI (s0))]) (rest := []) hc dX9_looks_30 (c_X9_slotAt hI zm (d := d) (s0 := s0) (by omega) (by omega)) ms_X9_56 (hn := rfl) (hst := rfl) (hw := Nat.le_of_ble_eq_true rfl) (hR := ⟨⟨rfl, rfl⟩, Nat.le_of_ble_eq_true rfl, Nat.le_of_ble_eq_true rfl⟩) (hnc := ⟨Nat.zero_le _, Nat.zero_le _⟩) (fun r_7 y_7 h_7 => ?_)
      obtain ⟨e_7, ey_7⟩ := h_7
      obtain rfl := ey_7.symm
      obtain rfl : r_7 = (nI (36 + 22 * d + 4 * s0)) := e_7
      refine rm_istore (ls' := [(0, .ref (ad 15 14 0)), (1, .ref (ad k 15 0)), (2, .int (nI (d))), (3, .int num), (4, .int (nI (s0))), (5, .int (nI (36 + 22 * d + 4 * s0)))]) hc dX9_looks_33 (by decide) rfl ?_
      rcases hRS d hd3 s0 (by omega) with hL0 | ⟨hL1, sa, la, hsa, hla, hs7, hs8, -⟩
      · --
        have hst0 : stpS x k d s0 num mm = 0 := if_pos hL0
        refine rm_iconst (v := 1) hc dX9_looks_35 (by decide) ?_
        refine rm_istore (ls' := [(0, .ref (ad 15 14 0)), (1, .ref (ad k 15 0)), (2, .int (nI (d))), (3, .int num), (4, .int (nI (s0))), (5, .int (nI (36 + 22 * d + 4 * s0))), (6, .int 1)]) hc dX9_looks_36 (by decide) rfl ?_
        refine rm_iload hc dX9_looks_38 rfl ?_
        refine rm_aload_n hc dX9_looks_40 rfl rfl ?_
        refine rm_iconst (v := 1) hc dX9_looks_41 (by decide) ?_
        refine rm_iald (i := 1) hc dX9_looks_42 (dm_15 (by omega)) rfl (by omega) (by decide) rfl (fun v_8 e_8 => ?_)
        obtain rfl : v_8 = (nI (mm)) := e_8.trans ((hM.at (by omega)).trans hw)
        refine rm_icmp_gt (tgt := 104) hc dX9_looks_43 (by decide) (fun c_9 => ?_) (fun c_9 => ?_)
        · --T
          refine rm_iinc (v := (nI (s0 + 1))) (ls' := [(0, .ref (ad 15 14 0)), (1, .ref (ad k 15 0)), (2, .int (nI (d))), (3, .int num), (4, .int (nI (s0 + 1))), (5, .int (nI (36 + 22 * d + 4 * s0))), (6, .int 1)]) hc dX9_looks_104 rfl (nIj (by omega)) (by decide) rfl ?_
          refine rm_goto (tgt := 13) hc dX9_looks_107 (by decide) ?_
          refine rm_sub [0, 1, 2, 3, 4] rfl ?_
          exact ih (s0 + 1) zm (by omega) hM h6 h7 (by rw [← hmt, mt_n hst0])
        · --F
          refine rm_aload_n hc dX9_looks_46 rfl rfl ?_
          refine rm_iload hc dX9_looks_47 rfl ?_
          refine rm_iald (i := 36 + 22 * d + 4 * s0) hc dX9_looks_49 (dm_15 (by omega)) rfl (by omega) (by decide) rfl (fun v_10 e_10 => ?_)
          obtain rfl : v_10 = 0 := e_10.trans ((hM.at (by omega)).trans hL0)
          refine rm_iconst (v := 1) hc dX9_looks_50 (by decide) ?_
          refine rm_icmp_ne (tgt := 104) hc dX9_looks_51 (by decide) (fun _ => ?_) (fun h => absurd h (by decide))
          refine rm_iinc (v := (nI (s0 + 1))) (ls' := [(0, .ref (ad 15 14 0)), (1, .ref (ad k 15 0)), (2, .int (nI (d))), (3, .int num), (4, .int (nI (s0 + 1))), (5, .int (nI (36 + 22 * d + 4 * s0))), (6, .int 1)]) hc dX9_looks_104 rfl (nIj (by omega)) (by decide) rfl ?_
          refine rm_goto (tgt := 13) hc dX9_looks_107 (by decide) ?_
          refine rm_sub [0, 1, 2, 3, 4] rfl ?_
          exact ih (s0 + 1) zm (by omega) hM h6 h7 (by rw [← hmt, mt_n hst0])
      · --
        have hstL : stpS x k d s0 num mm = stp (nI sa) num mm (nI ((la + 0) % 10000)) 0 := by unfold stpS; rw [hL1, hs7, hs8, if_neg (by decide), Nat.add_zero, Nat.mod_eq_of_lt hla]
        refine rm_iconst (v := 1) hc dX9_looks_35 (by decide) ?_
        refine rm_istore (ls' := [(0, .ref (ad 15 14 0)), (1, .ref (ad k 15 0)), (2, .int (nI (d))), (3, .int num), (4, .int (nI (s0))), (5, .int (nI (36 + 22 * d + 4 * s0))), (6, .int 1)]) hc dX9_looks_36 (by decide) rfl ?_
        have key38 : ∀ (f2 : Nat) (i : Nat), i + f2 = mm → stp (nI sa) num f2 (nI ((la + i) % 10000)) i = stpS x k d s0 num mm → RM p l e rm_X9_looks s m args below meth c 7 (AA ad s.heap.size) (GG D cy ad zm) 0 0 (QQ (Qv D cy ad (fun y => M7 x y ∧ y 15 6 = mI (mean x k d num mm).1 ∧ y 15 7 = nI (mean x k d num mm).2)) below args s ad) 38 [(0, .ref (ad 15 14 0)), (1, .ref (ad k 15 0)), (2, .int (nI (d))), (3, .int num), (4, .int (nI (s0))), (5, .int (nI (36 + 22 * d + 4 * s0))), (6, .int (nI (i + 1)))] [] := by
          intro f2
          induction f2 with
          | zero =>
            intro i hif2 hst
            have hst0 : stpS x k d s0 num mm = 0 := hst.symm
            refine rm_iload hc dX9_looks_38 rfl ?_
            refine rm_aload_n hc dX9_looks_40 rfl rfl ?_
            refine rm_iconst (v := 1) hc dX9_looks_41 (by decide) ?_
            refine rm_iald (i := 1) hc dX9_looks_42 (dm_15 (by omega)) rfl (by omega) (by decide) rfl (fun v_12 e_12 => ?_)
            obtain rfl : v_12 = (nI (mm)) := e_12.trans ((hM.at (by omega)).trans hw)
            refine rm_icmp_gt (tgt := 104) hc dX9_looks_43 (by decide) (fun _ => ?_) (fun h => absurd ((nI_ltI (a := mm) (b := i + 1) (by omega) (by omega)).mpr (by omega)) h)
            refine rm_iinc (v := (nI (s0 + 1))) (ls' := [(0, .ref (ad 15 14 0)), (1, .ref (ad k 15 0)), (2, .int (nI (d))), (3, .int num), (4, .int (nI (s0 + 1))), (5, .int (nI (36 + 22 * d + 4 * s0))), (6, .int (nI (i + 1)))]) hc dX9_looks_104 rfl (nIj (by omega)) (by decide) rfl ?_
            refine rm_goto (tgt := 13) hc dX9_looks_107 (by decide) ?_
            refine rm_sub [0, 1, 2, 3, 4] rfl ?_
            exact ih (s0 + 1) zm (by omega) hM h6 h7 (by rw [← hmt, mt_n hst0])
          | succ f2 ih2 =>
            intro i hif2 hst
            refine rm_iload hc dX9_looks_38 rfl ?_
            refine rm_aload_n hc dX9_looks_40 rfl rfl ?_
            refine rm_iconst (v := 1) hc dX9_looks_41 (by decide) ?_
            refine rm_iald (i := 1) hc dX9_looks_42 (dm_15 (by omega)) rfl (by omega) (by decide) rfl (fun v_14 e_14 => ?_)
            obtain rfl : v_14 = (nI (mm)) := e_14.trans ((hM.at (by omega)).trans hw)
            refine rm_icmp_gt (tgt := 104) hc dX9_looks_43 (by decide) (fun h => absurd h (fun h2 => absurd ((nI_ltI (a := mm) (b := i + 1) (by omega) (by omega)).mp h2) (by omega))) (fun _ => ?_)
            refine rm_aload_n hc dX9_looks_46 rfl rfl ?_
            refine rm_iload hc dX9_looks_47 rfl ?_
            refine rm_iald (i := 36 + 22 * d + 4 * s0) hc dX9_looks_49 (dm_15 (by omega)) rfl (by omega) (by decide) rfl (fun v_16 e_16 => ?_)
            obtain rfl : v_16 = 1 := e_16.trans ((hM.at (by omega)).trans hL1)
            refine rm_iconst (v := 1) hc dX9_looks_50 (by decide) ?_
            refine rm_icmp_ne (tgt := 104) hc dX9_looks_51 (by decide) (fun h => absurd h (by decide)) (fun _ => ?_)
            refine rm_aload_n hc dX9_looks_54 rfl rfl ?_
            refine rm_geti hc dX9_looks_55 fl_X9_50 dm_14 rfl rfl (fun v_18 e_18 => ?_)
            obtain rfl : v_18 = -1 := e_18.trans h6
            refine rm_iconst (v := -1) hc dX9_looks_58 (by decide) ?_
            refine rm_icmp_ne (tgt := 104) hc dX9_looks_59 (by decide) (fun h => absurd h (by decide)) (fun _ => ?_)
            refine rm_aload_n hc dX9_looks_62 rfl rfl ?_
            refine rm_iload hc dX9_looks_63 rfl ?_
            refine rm_iconst (v := 1) hc dX9_looks_65 (by decide) ?_
            refine rm_iadd hc dX9_looks_66 (fun v_20 e_20 => ?_)
            obtain rfl : v_20 = (nI (37 + 22 * d + 4 * s0)) := e_20.trans (nadd (m := 36 + 22 * d + 4 * s0) (n := 1) (by omega))
            clear e_20
            refine rm_iald (i := 37 + 22 * d + 4 * s0) hc dX9_looks_67 (dm_15 (by omega)) rfl (by omega) (by decide) rfl (fun v_21 e_21 => ?_)
            obtain rfl : v_21 = (nI (sa)) := e_21.trans ((hM.at (by omega)).trans hs7)
            refine rm_aload_n hc dX9_looks_68 rfl rfl ?_
            refine rm_iload hc dX9_looks_69 rfl ?_
            refine rm_iconst (v := 2) hc dX9_looks_71 (by decide) ?_
            refine rm_iadd hc dX9_looks_72 (fun v_22 e_22 => ?_)
            obtain rfl : v_22 = (nI (38 + 22 * d + 4 * s0)) := e_22.trans (nadd (m := 36 + 22 * d + 4 * s0) (n := 2) (by omega))
            clear e_22
            refine rm_iald (i := 38 + 22 * d + 4 * s0) hc dX9_looks_73 (dm_15 (by omega)) rfl (by omega) (by decide) rfl (fun v_23 e_23 => ?_)
            obtain rfl : v_23 = (nI (la)) := e_23.trans ((hM.at (by omega)).trans hs8)
            refine rm_iload hc dX9_looks_74 rfl ?_
            refine rm_calliS (As := [.int (nI (la)), .int (nI (i + 1))]) (rest := [.int (nI (sa))]) hc dX9_looks_76 (c_X9_ahead hI zm (a := la) (b := i + 1) (by omega) (by omega)) ms_X9_60 (hn := rfl) (hst := rfl) (hw := Nat.le_of_ble_eq_true rfl) (hR := ⟨⟨rfl, rfl⟩, Nat.le_of_ble_eq_true rfl, Nat.le_of_ble_eq_true rfl⟩) (hnc := ⟨Nat.zero_le _, Nat.zero_le _⟩) (fun r_24 y_24 h_24 => ?_)
            obtain ⟨e_24, ey_24⟩ := h_24
            obtain rfl := ey_24.symm
            obtain ⟨n_24, hn_24⟩ : ∃ n_24 : Nat, n_24 = (la + (i + 1)) % 10000 := ⟨_, rfl⟩
            have hl_24 : n_24 < 10000 := by omega
            obtain rfl : r_24 = nI n_24 := by rw [hn_24]; exact e_24
            refine rm_calliS (As := [.int (nI (sa)), .int (nI (n_24))]) (rest := []) hc dX9_looks_79 (c_X9_numberOf hI zm (a := sa) (b := n_24) (by omega) (by omega)) ms_X9_63 (hn := rfl) (hst := rfl) (hw := Nat.le_of_ble_eq_true rfl) (hR := ⟨⟨rfl, rfl⟩, Nat.le_of_ble_eq_true rfl, Nat.le_of_ble_eq_true rfl⟩) (hnc := ⟨Nat.zero_le _, Nat.zero_le _⟩) (fun r_25 y_25 h_25 => ?_)
            obtain ⟨e_25, ey_25⟩ := h_25
            obtain rfl := ey_25.symm
            refine rm_iload_n hc dX9_looks_82 rfl rfl ?_
            refine rm_icmp_ne (tgt := 98) hc dX9_looks_83 (by decide) (fun c_26 => ?_) (fun c_26 => ?_)
            · --
              refine rm_iinc (v := (nI (i + 2))) (ls' := [(0, .ref (ad 15 14 0)), (1, .ref (ad k 15 0)), (2, .int (nI (d))), (3, .int num), (4, .int (nI (s0))), (5, .int (nI (36 + 22 * d + 4 * s0))), (6, .int (nI (i + 2)))]) hc dX9_looks_98 rfl (nIj (by omega)) (by decide) rfl ?_
              refine rm_goto (tgt := 38) hc dX9_looks_101 (by decide) ?_
              exact ih2 (i + 1) (by omega) (by rw [← hst, stp_n (by rw [nx_mod]; rw [← hn_24, ← e_25]; exact c_26)]; congr 1; exact nx_mod.symm)
            · --
              refine rm_aload_n hc dX9_looks_86 rfl rfl ?_
              refine rm_iload hc dX9_looks_87 rfl ?_
              refine rm_put hc dX9_looks_89 fl_X9_50 dm_14 rfl (Nat.le_of_ble_eq_true rfl) ft_9_11 rfl rfl so_14_11 (rm_nm (fun x_27 ex_27 => ?_))
              refine rm_aload_n hc dX9_looks_92 rfl rfl ?_
              refine rm_iload hc dX9_looks_93 rfl ?_
              refine rm_put hc dX9_looks_95 fl_X9_53 dm_14 rfl (Nat.le_of_ble_eq_true rfl) ft_9_12 rfl rfl so_14_12 (rm_nm (fun x_28 ex_28 => ?_))
              have hst1 : stpS x k d s0 num mm = i + 1 := by rw [← hst]; exact stp_y (by rw [nx_mod, ← hn_24, ← e_25]; exact c_26)
              have hmean : mean x k d num mm = (s0, i + 1) := by rw [← hmt, mt_y (by omega), hst1]
              have hMf : M7 x x_28 := by rw [ex_28, ex_27]; exact (hM.u6 _).u7 _
              have hm6 : x_28 15 6 = nI s0 := by rw [ex_28, ex_27, up_n _ _ (by omega)]; exact up_s _ _ _ _
              have hm7 : x_28 15 7 = nI (i + 1) := by rw [ex_28]; exact up_s _ _ _ _
              replace hm6 : x_28 15 6 = nI s0 := hm6
              refine rm_iinc (v := (nI (i + 2))) (ls' := [(0, .ref (ad 15 14 0)), (1, .ref (ad k 15 0)), (2, .int (nI (d))), (3, .int num), (4, .int (nI (s0))), (5, .int (nI (36 + 22 * d + 4 * s0))), (6, .int (nI (i + 2)))]) hc dX9_looks_98 rfl (nIj (by omega)) (by decide) rfl ?_
              refine rm_goto (tgt := 38) hc dX9_looks_101 (by decide) ?_
              refine rm_iload hc dX9_looks_38 rfl ?_
              refine rm_aload_n hc dX9_looks_40 rfl rfl ?_
              refine rm_iconst (v := 1) hc dX9_looks_41 (by decide) ?_
              refine rm_iald (i := 1) hc dX9_looks_42 (dm_15 (by omega)) rfl (by omega) (by decide) rfl (fun v_29 e_29 => ?_)
              obtain rfl : v_29 = (nI (mm)) := e_29.trans ((hMf.at (by omega)).trans hw)
              refine rm_icmp_gt (tgt := 104) hc dX9_looks_43 (by decide) (fun c_30 => ?_) (fun c_30 => ?_)
              · --T
                refine rm_iinc (v := (nI (s0 + 1))) (ls' := [(0, .ref (ad 15 14 0)), (1, .ref (ad k 15 0)), (2, .int (nI (d))), (3, .int num), (4, .int (nI (s0 + 1))), (5, .int (nI (36 + 22 * d + 4 * s0))), (6, .int (nI (i + 2)))]) hc dX9_looks_104 rfl (nIj (by omega)) (by decide) rfl ?_
                refine rm_goto (tgt := 13) hc dX9_looks_107 (by decide) ?_
                refine rm_iload hc dX9_looks_13 rfl ?_
                refine rm_iconst (v := 4) hc dX9_looks_15 (by decide) ?_
                refine rm_icmp_ge (tgt := 110) hc dX9_looks_16 (by decide) (fun c_31 => ?_) (fun c_31 => ?_)
                · --T
                  exact rm_vret hc dX9_looks_110 ⟨hMf, by rw [hmean]; exact hm6.trans (mI_lt (by omega)).symm, by rw [hmean]; exact hm7⟩
                · --F
                  refine rm_aload_n hc dX9_looks_19 rfl rfl ?_
                  refine rm_geti hc dX9_looks_20 fl_X9_50 dm_14 rfl rfl (fun v_32 e_32 => ?_)
                  obtain rfl : v_32 = nI s0 := e_32.trans hm6
                  refine rm_iconst (v := -1) hc dX9_looks_23 (by decide) ?_
                  refine rm_icmp_ne (tgt := 110) hc dX9_looks_24 (by decide) (fun _ => ?_) (fun h => absurd h (nI_nm1 (by omega)))
                  exact rm_vret hc dX9_looks_110 ⟨hMf, by rw [hmean]; exact hm6.trans (mI_lt (by omega)).symm, by rw [hmean]; exact hm7⟩
              · --F
                refine rm_aload_n hc dX9_looks_46 rfl rfl ?_
                refine rm_iload hc dX9_looks_47 rfl ?_
                refine rm_iald (i := 36 + 22 * d + 4 * s0) hc dX9_looks_49 (dm_15 (by omega)) rfl (by omega) (by decide) rfl (fun v_34 e_34 => ?_)
                obtain rfl : v_34 = 1 := e_34.trans ((hMf.at (by omega)).trans hL1)
                refine rm_iconst (v := 1) hc dX9_looks_50 (by decide) ?_
                refine rm_icmp_ne (tgt := 104) hc dX9_looks_51 (by decide) (fun h => absurd h (by decide)) (fun _ => ?_)
                refine rm_aload_n hc dX9_looks_54 rfl rfl ?_
                refine rm_geti hc dX9_looks_55 fl_X9_50 dm_14 rfl rfl (fun v_36 e_36 => ?_)
                obtain rfl : v_36 = nI s0 := e_36.trans hm6
                refine rm_iconst (v := -1) hc dX9_looks_58 (by decide) ?_
                refine rm_icmp_ne (tgt := 104) hc dX9_looks_59 (by decide) (fun _ => ?_) (fun h => absurd h (nI_nm1 (by omega)))
                refine rm_iinc (v := (nI (s0 + 1))) (ls' := [(0, .ref (ad 15 14 0)), (1, .ref (ad k 15 0)), (2, .int (nI (d))), (3, .int num), (4, .int (nI (s0 + 1))), (5, .int (nI (36 + 22 * d + 4 * s0))), (6, .int (nI (i + 2)))]) hc dX9_looks_104 rfl (nIj (by omega)) (by decide) rfl ?_
                refine rm_goto (tgt := 13) hc dX9_looks_107 (by decide) ?_
                refine rm_iload hc dX9_looks_13 rfl ?_
                refine rm_iconst (v := 4) hc dX9_looks_15 (by decide) ?_
                refine rm_icmp_ge (tgt := 110) hc dX9_looks_16 (by decide) (fun c_38 => ?_) (fun c_38 => ?_)
                · --T
                  exact rm_vret hc dX9_looks_110 ⟨hMf, by rw [hmean]; exact hm6.trans (mI_lt (by omega)).symm, by rw [hmean]; exact hm7⟩
                · --F
                  refine rm_aload_n hc dX9_looks_19 rfl rfl ?_
                  refine rm_geti hc dX9_looks_20 fl_X9_50 dm_14 rfl rfl (fun v_39 e_39 => ?_)
                  obtain rfl : v_39 = nI s0 := e_39.trans hm6
                  refine rm_iconst (v := -1) hc dX9_looks_23 (by decide) ?_
                  refine rm_icmp_ne (tgt := 110) hc dX9_looks_24 (by decide) (fun _ => ?_) (fun h => absurd h (nI_nm1 (by omega)))
                  exact rm_vret hc dX9_looks_110 ⟨hMf, by rw [hmean]; exact hm6.trans (mI_lt (by omega)).symm, by rw [hmean]; exact hm7⟩
        exact key38 mm 0 (by omega) hstL.symm
  exact key13 4 0 _ (by omega) hM0 h60 h70 rfl

abbrev rm_X9_would : Room := { frames := 2, cells := 0, slots := 0, locals := 47 }
set_option maxHeartbeats 4000000 in
set_option maxRecDepth 100000 in
theorem c_X9_would {l : Launch} {D : va_G} {cy : Nat → ClassId} {ad : Ads} (hI : IJ ad) (x : Mem) {k d : Nat} (hk : k = 10 ∨ k = 11) (hd3 : d < 3) (num : Int32) (hRS : RS (x k)) (mm : Nat) (hmm : mm ≤ 500) (hw : x k 1 = nI mm) : Cti l yX9_would cX9_would 6 (some .int) rm_X9_would D cy ad [.ref (ad 15 14 0), .ref (ad k 15 0), .int (nI (d)), .int num] x (fun r y => r = hrR x k d k num mm ∧ M7 x y ∧ (∀ s t : Nat, s < 4 → mean x k d num mm = (s, t) → lockS (x k 2) (x k (31 + 22 * d)) = 0 → y 15 6 = nI s ∧ y 15 7 = nI t)) := by
  refine rm_entry (Qc := Qi D cy ad (fun r y => r = hrR x k d k num mm ∧ M7 x y ∧ (∀ s t : Nat, s < 4 → mean x k d num mm = (s, t) → lockS (x k 2) (x k (31 + 22 * d)) = 0 → y 15 6 = nI s ∧ y 15 7 = nI t))) hI (by decide) (Nat.le_of_ble_eq_true rfl) ?_
  intro p e s m args below meth c hc
  show RM _ _ _ _ _ _ _ _ _ _ _ _ _ _ _ _ _ [(0, .ref (ad 15 14 0)), (1, .ref (ad k 15 0)), (2, .int (nI (d))), (3, .int num)] []
  refine rm_aload_n hc dX9_would_0 rfl rfl ?_
  refine rm_iload_n hc dX9_would_1 rfl rfl ?_
  refine rm_calliS (As := [.ref (ad k 15 0), .int (nI (d))]) (rest := []) hc dX9_would_2 (c_X9_isLocked hI x (k := k) (d := d) (by omega) (by omega)) ms_X9_66 (hn := rfl) (hst := rfl) (hw := Nat.le_of_ble_eq_true rfl) (hR := ⟨⟨rfl, rfl⟩, Nat.le_of_ble_eq_true rfl, Nat.le_of_ble_eq_true rfl⟩) (hnc := ⟨Nat.zero_le _, Nat.zero_le _⟩) (fun r_1 y_1 h_1 => ?_)
  obtain ⟨e_1, ey_1⟩ := h_1
  obtain rfl := ey_1.symm
  refine rm_if_eq (tgt := 10) hc dX9_would_5 (by decide) (fun c_2 => ?_) (fun c_2 => ?_)
  · --
    have hL : lockS (x k 2) (x k (31 + 22 * d)) = 0 := e_1.symm.trans c_2
    refine rm_aload_n hc dX9_would_10 rfl rfl ?_
    refine rm_aload_n hc dX9_would_11 rfl rfl ?_
    refine rm_iload_n hc dX9_would_12 rfl rfl ?_
    refine rm_iload_n hc dX9_would_13 rfl rfl ?_
    refine rm_callvV (As := [.ref (ad k 15 0), .int (nI (d)), .int num]) (rest := []) hc dX9_would_14 (c_X9_looks hI x (k := k) (d := d) (by omega) (by omega) num hRS mm (by omega) hw) mv_X9_70 dm_14 rfl rfl (hn := rfl) (hst := rfl) (hw := Nat.le_of_ble_eq_true rfl) (hR := ⟨⟨rfl, rfl⟩, Nat.le_of_ble_eq_true rfl, Nat.le_of_ble_eq_true rfl⟩) (hnc := ⟨Nat.zero_le _, Nat.zero_le _⟩) (fun y_3 h_3 => ?_)
    obtain ⟨hM, hy6, hy7⟩ := h_3
    rcases mean_or x k d mm num with hmean | ⟨s0, t0, hs4, ht1, ht2, hmean, hne⟩
    · --
      rw [hmean] at hy6 hy7
      refine rm_aload_n hc dX9_would_17 rfl rfl ?_
      refine rm_geti hc dX9_would_18 fl_X9_50 dm_14 rfl rfl (fun v_4 e_4 => ?_)
      obtain rfl : v_4 = -1 := e_4.trans hy6
      refine rm_iconst (v := -1) hc dX9_would_21 (by decide) ?_
      refine rm_icmp_ne (tgt := 27) hc dX9_would_22 (by decide) (fun h => absurd h (by decide)) (fun _ => ?_)
      refine rm_iconst (v := 2) hc dX9_would_25 (by decide) ?_
      exact rm_iret hc dX9_would_26 ⟨(hr_2 hL hmean).1.symm, hM, fun s t h1 h2 h3 => absurd (congrArg Prod.fst (hmean.symm.trans h2)) (by show ¬ 4 = s; omega)⟩
    · --
      rw [hmean] at hy6 hy7
      rcases hRS d hd3 s0 (by omega) with hL0 | ⟨hL1, sa, la, hsa, hla, hs7, hs8, hs9⟩
      · exact absurd hL0 hne
      rcases hs9 with hs9 | ⟨na, hna, hs9⟩
      · --
        refine rm_aload_n hc dX9_would_17 rfl rfl ?_
        refine rm_geti hc dX9_would_18 fl_X9_50 dm_14 rfl rfl (fun v_6 e_6 => ?_)
        obtain rfl : v_6 = nI s0 := e_6.trans (hy6.trans (mI_lt hs4))
        refine rm_iconst (v := -1) hc dX9_would_21 (by decide) ?_
        refine rm_icmp_ne (tgt := 27) hc dX9_would_22 (by decide) (fun _ => ?_) (fun h => absurd h (nI_nm1 (by omega)))
        refine rm_iload_n hc dX9_would_27 rfl rfl ?_
        refine rm_aload_n hc dX9_would_28 rfl rfl ?_
        refine rm_geti hc dX9_would_29 fl_X9_50 dm_14 rfl rfl (fun v_8 e_8 => ?_)
        obtain rfl : v_8 = nI s0 := e_8.trans (hy6.trans (mI_lt hs4))
        refine rm_calliS (As := [.int (nI (d)), .int (nI (s0))]) (rest := []) hc dX9_would_32 (c_X9_slotAt hI y_3 (d := d) (s0 := s0) (by omega) (by omega)) ms_X9_56 (hn := rfl) (hst := rfl) (hw := Nat.le_of_ble_eq_true rfl) (hR := ⟨⟨rfl, rfl⟩, Nat.le_of_ble_eq_true rfl, Nat.le_of_ble_eq_true rfl⟩) (hnc := ⟨Nat.zero_le _, Nat.zero_le _⟩) (fun r_9 y_9 h_9 => ?_)
        obtain ⟨e_9, ey_9⟩ := h_9
        obtain rfl := ey_9.symm
        obtain rfl : r_9 = (nI (36 + 22 * d + 4 * s0)) := e_9
        refine rm_istore (ls' := [(0, .ref (ad 15 14 0)), (1, .ref (ad k 15 0)), (2, .int (nI (d))), (3, .int num), (4, .int (nI (36 + 22 * d + 4 * s0)))]) hc dX9_would_35 (by decide) rfl ?_
        refine rm_aload_n hc dX9_would_37 rfl rfl ?_
        refine rm_iload hc dX9_would_38 rfl ?_
        refine rm_iconst (v := 3) hc dX9_would_40 (by decide) ?_
        refine rm_iadd hc dX9_would_41 (fun v_10 e_10 => ?_)
        obtain rfl : v_10 = (nI (39 + 22 * d + 4 * s0)) := e_10.trans (nadd (m := 36 + 22 * d + 4 * s0) (n := 3) (by omega))
        clear e_10
        refine rm_iald (i := 39 + 22 * d + 4 * s0) hc dX9_would_42 (dm_15 (by omega)) rfl (by omega) (by decide) rfl (fun v_11 e_11 => ?_)
        obtain rfl : v_11 = (-1) := e_11.trans ((hM.at (by omega)).trans hs9)
        refine rm_iconst (v := -1) hc dX9_would_43 (by decide) ?_
        refine rm_icmp_eq (tgt := 77) hc dX9_would_44 (by decide) (fun _ => ?_) (fun h => absurd (by decide) h)
        refine rm_iconst (v := 0) hc dX9_would_77 (by decide) ?_
        refine rm_istore (ls' := [(0, .ref (ad 15 14 0)), (1, .ref (ad k 15 0)), (2, .int (nI (d))), (3, .int num), (4, .int (nI (36 + 22 * d + 4 * s0))), (5, .int 0)]) hc dX9_would_78 (by decide) rfl ?_
        refine rm_aload_n hc dX9_would_80 rfl rfl ?_
        refine rm_geti hc dX9_would_81 fl_X9_53 dm_14 rfl rfl (fun v_13 e_13 => ?_)
        obtain rfl : v_13 = nI t0 := e_13.trans hy7
        refine rm_aload_n hc dX9_would_84 rfl rfl ?_
        refine rm_iconst (v := 0) hc dX9_would_85 (by decide) ?_
        refine rm_iald (i := 0) hc dX9_would_86 (dm_15 (by omega)) rfl (by omega) (by decide) rfl (fun v_14 e_14 => ?_)
        replace e_14 : v_14 = x k (0) := e_14.trans (hM.at (by omega))
        refine rm_icmp_le (tgt := 95) hc dX9_would_87 (by decide) (fun c_15 => ?_) (fun c_15 => ?_)
        · --T
          refine rm_iconst (v := 0) hc dX9_would_95 (by decide) ?_
          refine rm_goto (tgt := 100) hc dX9_would_96 (by decide) ?_
          exact rm_iret hc dX9_would_100 ⟨(hr_0 hL hmean hs4 ((tk_m1 hs9).mpr (by subst_vars; first | assumption | (first | exact Or.inl (by assumption) | exact Or.inr (by assumption))))).1.symm, hM, fun s t h1 h2 h3 => by obtain ⟨rfl, rfl⟩ := Prod.mk.inj (hmean.symm.trans h2); exact ⟨hy6.trans (mI_lt hs4), hy7⟩⟩
        · --F
          refine rm_iload hc dX9_would_90 rfl ?_
          refine rm_if_eq (tgt := 99) hc dX9_would_92 (by decide) (fun _ => ?_) (fun h => absurd (by decide) h)
          refine rm_iconst (v := 1) hc dX9_would_99 (by decide) ?_
          exact rm_iret hc dX9_would_100 ⟨(hr_1 hL hmean hs4 (fun h8 => absurd ((tk_m1 hs9).mp h8) (by subst_vars; first | assumption | (rintro (h9 | h9) <;> contradiction)))).1.symm, hM, fun s t h1 h2 h3 => by obtain ⟨rfl, rfl⟩ := Prod.mk.inj (hmean.symm.trans h2); exact ⟨hy6.trans (mI_lt hs4), hy7⟩⟩
      · --
        refine rm_aload_n hc dX9_would_17 rfl rfl ?_
        refine rm_geti hc dX9_would_18 fl_X9_50 dm_14 rfl rfl (fun v_17 e_17 => ?_)
        obtain rfl : v_17 = nI s0 := e_17.trans (hy6.trans (mI_lt hs4))
        refine rm_iconst (v := -1) hc dX9_would_21 (by decide) ?_
        refine rm_icmp_ne (tgt := 27) hc dX9_would_22 (by decide) (fun _ => ?_) (fun h => absurd h (nI_nm1 (by omega)))
        refine rm_iload_n hc dX9_would_27 rfl rfl ?_
        refine rm_aload_n hc dX9_would_28 rfl rfl ?_
        refine rm_geti hc dX9_would_29 fl_X9_50 dm_14 rfl rfl (fun v_19 e_19 => ?_)
        obtain rfl : v_19 = nI s0 := e_19.trans (hy6.trans (mI_lt hs4))
        refine rm_calliS (As := [.int (nI (d)), .int (nI (s0))]) (rest := []) hc dX9_would_32 (c_X9_slotAt hI y_3 (d := d) (s0 := s0) (by omega) (by omega)) ms_X9_56 (hn := rfl) (hst := rfl) (hw := Nat.le_of_ble_eq_true rfl) (hR := ⟨⟨rfl, rfl⟩, Nat.le_of_ble_eq_true rfl, Nat.le_of_ble_eq_true rfl⟩) (hnc := ⟨Nat.zero_le _, Nat.zero_le _⟩) (fun r_20 y_20 h_20 => ?_)
        obtain ⟨e_20, ey_20⟩ := h_20
        obtain rfl := ey_20.symm
        obtain rfl : r_20 = (nI (36 + 22 * d + 4 * s0)) := e_20
        refine rm_istore (ls' := [(0, .ref (ad 15 14 0)), (1, .ref (ad k 15 0)), (2, .int (nI (d))), (3, .int num), (4, .int (nI (36 + 22 * d + 4 * s0)))]) hc dX9_would_35 (by decide) rfl ?_
        refine rm_aload_n hc dX9_would_37 rfl rfl ?_
        refine rm_iload hc dX9_would_38 rfl ?_
        refine rm_iconst (v := 3) hc dX9_would_40 (by decide) ?_
        refine rm_iadd hc dX9_would_41 (fun v_21 e_21 => ?_)
        obtain rfl : v_21 = (nI (39 + 22 * d + 4 * s0)) := e_21.trans (nadd (m := 36 + 22 * d + 4 * s0) (n := 3) (by omega))
        clear e_21
        refine rm_iald (i := 39 + 22 * d + 4 * s0) hc dX9_would_42 (dm_15 (by omega)) rfl (by omega) (by decide) rfl (fun v_22 e_22 => ?_)
        obtain rfl : v_22 = (nI (na)) := e_22.trans ((hM.at (by omega)).trans hs9)
        refine rm_iconst (v := -1) hc dX9_would_43 (by decide) ?_
        refine rm_icmp_eq (tgt := 77) hc dX9_would_44 (by decide) (fun h => absurd h (nI_nm1 (by omega))) (fun _ => ?_)
        refine rm_aload_n hc dX9_would_47 rfl rfl ?_
        refine rm_iload hc dX9_would_48 rfl ?_
        refine rm_iconst (v := 3) hc dX9_would_50 (by decide) ?_
        refine rm_iadd hc dX9_would_51 (fun v_24 e_24 => ?_)
        obtain rfl : v_24 = (nI (39 + 22 * d + 4 * s0)) := e_24.trans (nadd (m := 36 + 22 * d + 4 * s0) (n := 3) (by omega))
        clear e_24
        refine rm_iald (i := 39 + 22 * d + 4 * s0) hc dX9_would_52 (dm_15 (by omega)) rfl (by omega) (by decide) rfl (fun v_25 e_25 => ?_)
        obtain rfl : v_25 = (nI (na)) := e_25.trans ((hM.at (by omega)).trans hs9)
        refine rm_iconst (v := 1) hc dX9_would_53 (by decide) ?_
        refine rm_calliS (As := [.int (nI (na)), .int 1]) (rest := []) hc dX9_would_54 (c_X9_ahead hI y_3 (a := na) (b := 1) (by omega) (by omega)) ms_X9_60 (hn := rfl) (hst := rfl) (hw := Nat.le_of_ble_eq_true rfl) (hR := ⟨⟨rfl, rfl⟩, Nat.le_of_ble_eq_true rfl, Nat.le_of_ble_eq_true rfl⟩) (hnc := ⟨Nat.zero_le _, Nat.zero_le _⟩) (fun r_26 y_26 h_26 => ?_)
        obtain ⟨e_26, ey_26⟩ := h_26
        obtain rfl := ey_26.symm
        obtain ⟨n_26, hn_26⟩ : ∃ n_26 : Nat, n_26 = (na + 1) % 10000 := ⟨_, rfl⟩
        have hl_26 : n_26 < 10000 := by omega
        obtain rfl : r_26 = nI n_26 := by rw [hn_26]; exact e_26
        refine rm_aload_n hc dX9_would_57 rfl rfl ?_
        refine rm_iload hc dX9_would_58 rfl ?_
        refine rm_iconst (v := 2) hc dX9_would_60 (by decide) ?_
        refine rm_iadd hc dX9_would_61 (fun v_27 e_27 => ?_)
        obtain rfl : v_27 = (nI (38 + 22 * d + 4 * s0)) := e_27.trans (nadd (m := 36 + 22 * d + 4 * s0) (n := 2) (by omega))
        clear e_27
        refine rm_iald (i := 38 + 22 * d + 4 * s0) hc dX9_would_62 (dm_15 (by omega)) rfl (by omega) (by decide) rfl (fun v_28 e_28 => ?_)
        obtain rfl : v_28 = (nI (la)) := e_28.trans ((hM.at (by omega)).trans hs8)
        refine rm_aload_n hc dX9_would_63 rfl rfl ?_
        refine rm_geti hc dX9_would_64 fl_X9_53 dm_14 rfl rfl (fun v_29 e_29 => ?_)
        obtain rfl : v_29 = nI t0 := e_29.trans hy7
        refine rm_calliS (As := [.int (nI (la)), .int (nI (t0))]) (rest := [.int (nI (n_26))]) hc dX9_would_67 (c_X9_ahead hI y_3 (a := la) (b := t0) (by omega) (by omega)) ms_X9_60 (hn := rfl) (hst := rfl) (hw := Nat.le_of_ble_eq_true rfl) (hR := ⟨⟨rfl, rfl⟩, Nat.le_of_ble_eq_true rfl, Nat.le_of_ble_eq_true rfl⟩) (hnc := ⟨Nat.zero_le _, Nat.zero_le _⟩) (fun r_30 y_30 h_30 => ?_)
        obtain ⟨e_30, ey_30⟩ := h_30
        obtain rfl := ey_30.symm
        obtain ⟨n_30, hn_30⟩ : ∃ n_30 : Nat, n_30 = (la + t0) % 10000 := ⟨_, rfl⟩
        have hl_30 : n_30 < 10000 := by omega
        obtain rfl : r_30 = nI n_30 := by rw [hn_30]; exact e_30
        refine rm_icmp_ne (tgt := 77) hc dX9_would_70 (by decide) (fun c_31 => ?_) (fun c_31 => ?_)
        · --T
          refine rm_iconst (v := 0) hc dX9_would_77 (by decide) ?_
          refine rm_istore (ls' := [(0, .ref (ad 15 14 0)), (1, .ref (ad k 15 0)), (2, .int (nI (d))), (3, .int num), (4, .int (nI (36 + 22 * d + 4 * s0))), (5, .int 0)]) hc dX9_would_78 (by decide) rfl ?_
          refine rm_aload_n hc dX9_would_80 rfl rfl ?_
          refine rm_geti hc dX9_would_81 fl_X9_53 dm_14 rfl rfl (fun v_32 e_32 => ?_)
          obtain rfl : v_32 = nI t0 := e_32.trans hy7
          refine rm_aload_n hc dX9_would_84 rfl rfl ?_
          refine rm_iconst (v := 0) hc dX9_would_85 (by decide) ?_
          refine rm_iald (i := 0) hc dX9_would_86 (dm_15 (by omega)) rfl (by omega) (by decide) rfl (fun v_33 e_33 => ?_)
          replace e_33 : v_33 = x k (0) := e_33.trans (hM.at (by omega))
          refine rm_icmp_le (tgt := 95) hc dX9_would_87 (by decide) (fun c_34 => ?_) (fun c_34 => ?_)
          · --T
            refine rm_iconst (v := 0) hc dX9_would_95 (by decide) ?_
            refine rm_goto (tgt := 100) hc dX9_would_96 (by decide) ?_
            exact rm_iret hc dX9_would_100 ⟨(hr_0 hL hmean hs4 ((tk_nn hs8 hs9 hla hna (by omega)).mpr (by subst_vars; first | assumption | (first | exact Or.inl (by assumption) | exact Or.inr (by assumption))))).1.symm, hM, fun s t h1 h2 h3 => by obtain ⟨rfl, rfl⟩ := Prod.mk.inj (hmean.symm.trans h2); exact ⟨hy6.trans (mI_lt hs4), hy7⟩⟩
          · --F
            refine rm_iload hc dX9_would_90 rfl ?_
            refine rm_if_eq (tgt := 99) hc dX9_would_92 (by decide) (fun _ => ?_) (fun h => absurd (by decide) h)
            refine rm_iconst (v := 1) hc dX9_would_99 (by decide) ?_
            exact rm_iret hc dX9_would_100 ⟨(hr_1 hL hmean hs4 (fun h8 => absurd ((tk_nn hs8 hs9 hla hna (by omega)).mp h8) (by subst_vars; first | assumption | (rintro (h9 | h9) <;> contradiction)))).1.symm, hM, fun s t h1 h2 h3 => by obtain ⟨rfl, rfl⟩ := Prod.mk.inj (hmean.symm.trans h2); exact ⟨hy6.trans (mI_lt hs4), hy7⟩⟩
        · --F
          refine rm_iconst (v := 1) hc dX9_would_73 (by decide) ?_
          refine rm_goto (tgt := 78) hc dX9_would_74 (by decide) ?_
          refine rm_istore (ls' := [(0, .ref (ad 15 14 0)), (1, .ref (ad k 15 0)), (2, .int (nI (d))), (3, .int num), (4, .int (nI (36 + 22 * d + 4 * s0))), (5, .int 1)]) hc dX9_would_78 (by decide) rfl ?_
          refine rm_aload_n hc dX9_would_80 rfl rfl ?_
          refine rm_geti hc dX9_would_81 fl_X9_53 dm_14 rfl rfl (fun v_36 e_36 => ?_)
          obtain rfl : v_36 = nI t0 := e_36.trans hy7
          refine rm_aload_n hc dX9_would_84 rfl rfl ?_
          refine rm_iconst (v := 0) hc dX9_would_85 (by decide) ?_
          refine rm_iald (i := 0) hc dX9_would_86 (dm_15 (by omega)) rfl (by omega) (by decide) rfl (fun v_37 e_37 => ?_)
          replace e_37 : v_37 = x k (0) := e_37.trans (hM.at (by omega))
          refine rm_icmp_le (tgt := 95) hc dX9_would_87 (by decide) (fun c_38 => ?_) (fun c_38 => ?_)
          · --T
            refine rm_iconst (v := 0) hc dX9_would_95 (by decide) ?_
            refine rm_goto (tgt := 100) hc dX9_would_96 (by decide) ?_
            exact rm_iret hc dX9_would_100 ⟨(hr_0 hL hmean hs4 ((tk_nn hs8 hs9 hla hna (by omega)).mpr (by subst_vars; first | assumption | (first | exact Or.inl (by assumption) | exact Or.inr (by assumption))))).1.symm, hM, fun s t h1 h2 h3 => by obtain ⟨rfl, rfl⟩ := Prod.mk.inj (hmean.symm.trans h2); exact ⟨hy6.trans (mI_lt hs4), hy7⟩⟩
          · --F
            refine rm_iload hc dX9_would_90 rfl ?_
            refine rm_if_eq (tgt := 99) hc dX9_would_92 (by decide) (fun h => absurd h (by decide)) (fun _ => ?_)
            refine rm_iconst (v := 0) hc dX9_would_95 (by decide) ?_
            refine rm_goto (tgt := 100) hc dX9_would_96 (by decide) ?_
            exact rm_iret hc dX9_would_100 ⟨(hr_0 hL hmean hs4 ((tk_nn hs8 hs9 hla hna (by omega)).mpr (by subst_vars; first | assumption | (first | exact Or.inl (by assumption) | exact Or.inr (by assumption))))).1.symm, hM, fun s t h1 h2 h3 => by obtain ⟨rfl, rfl⟩ := Prod.mk.inj (hmean.symm.trans h2); exact ⟨hy6.trans (mI_lt hs4), hy7⟩⟩
  · --
    have hL : ¬ lockS (x k 2) (x k (31 + 22 * d)) = 0 := fun h => c_2 (e_1.trans h)
    refine rm_iconst (v := 3) hc dX9_would_8 (by decide) ?_
    exact rm_iret hc dX9_would_9 ⟨(hr_3 hL).1.symm, M7.rf x, fun s t h1 h2 h3 => absurd h3 hL⟩
