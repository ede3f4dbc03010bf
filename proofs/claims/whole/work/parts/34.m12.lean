theorem or0 (a : Int32) : a ||| 0 = a := by simp
theorem M7.snd {u y : Mem} (h : M7 u y) {k mm d : Nat} {msk num : Int32} (hk : k ≠ 15) : M7 (sendS u k msk num mm d).2 (sendS y k msk num mm d).2 ∧ (sendS y k msk num mm d).1 = (sendS u k msk num mm d).1 := by
  induction d with
  | zero => exact ⟨h, rfl⟩
  | succ d ih =>
    unfold sendS
    split
    · refine ⟨ih.1.hrM hk, ?_⟩
      show (if _ then _ else _) = (if _ then _ else _)
      rw [hrR_blk (ih.1.blk hk), ih.2]
    · exact ih
theorem RF.up {x : Mem} {k p : Nat} {v : Int32} (h : RF (x k)) (hp : ∀ j, j < 4 → p ≠ 14 + 4 * j ∧ p ≠ 15 + 4 * j) : RF (up x k p v k) := fun j hj => by
  obtain ⟨a, b, ha, hb, h1, h2⟩ := h j hj
  exact ⟨a, b, ha, hb, (up_n _ _ (fun q => (hp j hj).1 q.symm)).trans h1, (up_n _ _ (fun q => (hp j hj).2 q.symm)).trans h2⟩
/-- the model's press, before the doors hear it -/
theorem prs_M {x y : Mem} {k j n nr : Nat} {v1 v2 v3 num : Int32} (hj : j < 4) (hnx : nI n = nx (x k (15 + 4 * j))) (h1 : v1 = x k (16 + 4 * j) - 1)
    (h2 : v2 = x k (17 + 4 * j) + 1) (hr : x k 5 = nI nr) (h8 : nr ≤ 8) (h3 : v3 = nI (if nr < 8 then nr + 1 else nr))
    (hy : y = up (up (shA (up (up (up x k (16 + 4 * j) v1) k (15 + 4 * j) (nI n)) k (17 + 4 * j) v2) k) k 6 num) k 5 v3) : y = recF (sndF x k j) k num := by
  subst hy h1 h2 h3
  rw [up_cm (x := up x k (16 + 4 * j) (x k (16 + 4 * j) - 1)) (show 15 + 4 * j ≠ 17 + 4 * j by omega), hnx]
  unfold recF
  congr 1
  rw [sndF_lo (by omega), hr, nI_1]
  have h9 : (8 : Int32) < nI (nr + 1) ↔ 8 < nr + 1 := nI_ltI (a := 8) (b := nr + 1) (by omega) (by omega)
  by_cases h : nr < 8
  · rw [if_pos h, if_neg (fun q => absurd (h9.mp q) (by omega))]
  · rw [if_neg h, if_pos (h9.mpr (by omega)), show nr = 8 by omega]
    rfl
/-- the air's numbers move, one after the other -/
def shI (x : Mem) (k i : Nat) : Mem := fun b n => if b = k ∧ 6 + i < n ∧ n < 14 then x k (n - 1) else x b n
theorem shI_0 {x : Mem} {k : Nat} : x = shI x k 7 := by
  funext b n
  unfold shI
  rw [if_neg (by omega)]
theorem shI_e {x : Mem} {k : Nat} : shI x k 0 = shA x k := rfl
theorem shI_st {x zm xx : Mem} {k i : Nat} {v : Int32} (h0 : 0 < i) (h7 : i ≤ 7) (hz : zm = shI x k i) (hv : v = zm k (i + 5)) (hx : xx = up zm k (i + 6) v) : xx = shI x k (i - 1) := by
  subst hz
  rw [hx, hv]
  funext b n
  unfold up shI
  by_cases hb : b = k
  · subst hb
    by_cases hn : n = i + 6
    · subst hn
      rw [if_pos ⟨rfl, rfl⟩, if_neg (by omega), if_pos (by omega)]
      congr 1
    · rw [if_neg (by omega)]
      by_cases h2 : 6 + i < n ∧ n < 14
      · rw [if_pos (by omega), if_pos (by omega)]
      · rw [if_neg (by omega), if_neg (by omega)]
  · rw [if_neg (by omega), if_neg (by omega), if_neg (by omega)]
theorem recF_blk {x y : Mem} {k k2 : Nat} {v : Int32} (h : y k2 = x k) : recF y k2 v k2 = recF x k v k := by
  unfold recF
  have hs : shA y k2 k2 = shA x k k := by
    funext n
    unfold shA
    rw [h]
    by_cases hn : 7 ≤ n ∧ n < 14
    · rw [if_pos ⟨rfl, hn⟩, if_pos ⟨rfl, hn⟩]
    · rw [if_neg (fun q => hn q.2), if_neg (fun q => hn q.2)]
  exact up_blk (up_blk hs rfl) (by rw [h])
theorem RS.rec {x : Mem} {k : Nat} {v : Int32} (h : RS (x k)) : RS (recF x k v k) := fun d hd s hs => (h d hd s hs).cg fun i hi => by
  unfold recF shA
  rw [up_n _ _ (by omega), up_n _ _ (by omega), if_neg (by omega)]
theorem RS.sF {x : Mem} {k j : Nat} (h : RS (x k)) (hj : j < 4) : RS (sndF x k j k) := fun d hd s hs => (h d hd s hs).cg fun i hi => by
  unfold sndF
  rw [up_n _ _ (by omega), up_n _ _ (by omega), up_n _ _ (by omega)]
theorem ones_n {bn : Nat} (h : bn < 8) : (nI bn &&& 1) + ((nI bn >>> ((1 : Int32) &&& 31)) &&& 1) + ((nI bn >>> ((2 : Int32) &&& 31)) &&& 1) = nI (ones3 bn) := by
  rcases (show bn = 0 ∨ bn = 1 ∨ bn = 2 ∨ bn = 3 ∨ bn = 4 ∨ bn = 5 ∨ bn = 6 ∨ bn = 7 by omega) with rfl | rfl | rfl | rfl | rfl | rfl | rfl | rfl <;> decide +kernel
theorem dec_n {i : Nat} (h : 0 < i) : nI i + Int32.ofInt (-1) = nI (i - 1) := by
  obtain ⟨n, rfl⟩ : ∃ n, i = n + 1 := ⟨i - 1, by omega⟩
  exact pk_m1 n
abbrev rm_X9_hears : Room := { frames := 3, cells := 0, slots := 0, locals := 72 }
set_option maxHeartbeats 4000000 in
set_option maxRecDepth 100000 in
theorem c_X9_hears {l : Launch} {D : va_G} {cy : Nat → ClassId} {ad : Ads} (hI : IJ ad) (x : Mem) {k d : Nat} (hk : k = 10 ∨ k = 11) (hd3 : d < 3) (num : Int32) (hRS : RS (x k)) (mm : Nat) (hmm : mm ≤ 500) (hw : x k 1 = nI mm) : Cti l yX9_hears cX9_hears 8 (some .boolean) rm_X9_hears D cy ad [.ref (ad 15 14 0), .ref (ad k 15 0), .int (nI (d)), .int num] x (fun r y => r = (if hrR x k d k num mm = 0 then 1 else 0) ∧ M7 (hrM x k d k num mm) y) := by
  refine rm_entry (Qc := Qi D cy ad (fun r y => r = (if hrR x k d k num mm = 0 then 1 else 0) ∧ M7 (hrM x k d k num mm) y)) hI (by decide) (Nat.le_of_ble_eq_true rfl) ?_
  intro p e s m args below meth c hc
  show RM _ _ _ _ _ _ _ _ _ _ _ _ _ _ _ _ _ [(0, .ref (ad 15 14 0)), (1, .ref (ad k 15 0)), (2, .int (nI (d))), (3, .int num)] []
  refine rm_aload_n hc dX9_hears_0 rfl rfl ?_
  refine rm_aload_n hc dX9_hears_1 rfl rfl ?_
  refine rm_iload_n hc dX9_hears_2 rfl rfl ?_
  refine rm_iload_n hc dX9_hears_3 rfl rfl ?_
  refine rm_calliV (As := [.ref (ad k 15 0), .int (nI (d)), .int num]) (rest := []) hc dX9_hears_4 (c_X9_would hI x (k := k) (d := d) (by omega) (by omega) num hRS mm (by omega) hw) mv_X9_74 dm_14 rfl rfl (hn := rfl) (hst := rfl) (hw := Nat.le_of_ble_eq_true rfl) (hR := ⟨⟨rfl, rfl⟩, Nat.le_of_ble_eq_true rfl, Nat.le_of_ble_eq_true rfl⟩) (hnc := ⟨Nat.zero_le _, Nat.zero_le _⟩) (fun r_1 y_1 h_1 => ?_)
  obtain ⟨e_1, hM, hmf⟩ := h_1
  rcases hr_or x k d mm num with ⟨hL, hR, hH⟩ | ⟨hL, ⟨hmean, hR, hH⟩ | ⟨s0, t0, hs4, ht1, ht2, hmean, hne, hT⟩⟩
  · --3
    obtain rfl : r_1 = 3 := e_1.trans hR
    refine rm_istore (ls' := [(0, .ref (ad 15 14 0)), (1, .ref (ad k 15 0)), (2, .int (nI (d))), (3, .int num), (4, .int 3)]) hc dX9_hears_7 (by decide) rfl ?_
    refine rm_bipush (v := 30) hc dX9_hears_9 (by decide) ?_
    refine rm_bipush (v := 22) hc dX9_hears_11 (by decide) ?_
    refine rm_iload_n hc dX9_hears_13 rfl rfl ?_
    refine rm_imul hc dX9_hears_14 (fun v_2 e_2 => ?_)
    obtain rfl : v_2 = (nI (22 * d)) := e_2.trans (nmul (m := 22) (n := d) (by omega))
    clear e_2
    refine rm_iadd hc dX9_hears_15 (fun v_3 e_3 => ?_)
    obtain rfl : v_3 = (nI (30 + 22 * d)) := e_3.trans (nadd (m := 30) (n := 22 * d) (by omega))
    clear e_3
    refine rm_istore (ls' := [(0, .ref (ad 15 14 0)), (1, .ref (ad k 15 0)), (2, .int (nI (d))), (3, .int num), (4, .int 3), (5, .int (nI (30 + 22 * d)))]) hc dX9_hears_16 (by decide) rfl ?_
    refine rm_iload hc dX9_hears_18 rfl ?_
    refine rm_iconst (v := 3) hc dX9_hears_20 (by decide) ?_
    refine rm_icmp_ne (tgt := 37) hc dX9_hears_21 (by decide) (fun h => absurd h (by decide)) (fun _ => ?_)
    refine rm_aload_n hc dX9_hears_24 rfl rfl ?_
    refine rm_iload hc dX9_hears_25 rfl ?_
    refine rm_iconst (v := 5) hc dX9_hears_27 (by decide) ?_
    refine rm_iadd hc dX9_hears_28 (fun v_5 e_5 => ?_)
    obtain rfl : v_5 = (nI (35 + 22 * d)) := e_5.trans (nadd (m := 30 + 22 * d) (n := 5) (by omega))
    clear e_5
    refine rm_dup2 hc dX9_hears_29 rfl rfl ?_
    refine rm_iald (i := 35 + 22 * d) hc dX9_hears_30 (dm_15 (by omega)) rfl (by omega) (by decide) rfl (fun v_6 e_6 => ?_)
    refine rm_iconst (v := 1) hc dX9_hears_31 (by decide) ?_
    refine rm_iadd hc dX9_hears_32 (fun v_7 e_7 => ?_)
    refine rm_iast (i := 35 + 22 * d) hc dX9_hears_33 (dm_15 (by omega)) rfl (by omega) (by decide) rfl (so_15 (by omega)) (rm_nm (fun x_8 ex_8 => ?_))
    refine rm_goto (tgt := 189) hc dX9_hears_34 (by decide) ?_
    refine rm_iload hc dX9_hears_189 rfl ?_
    refine rm_if_ne (tgt := 198) hc dX9_hears_191 (by decide) (fun _ => ?_) (fun h => absurd h (by decide))
    refine rm_iconst (v := 0) hc dX9_hears_198 (by decide) ?_
    exact rm_zret hc dX9_hears_199 rfl ⟨by rw [hR]; decide, by rw [hH]; subst_vars; exact hM.upq (by rw [hM.at (by omega)])⟩
  · --2
    obtain rfl : r_1 = 2 := e_1.trans hR
    refine rm_istore (ls' := [(0, .ref (ad 15 14 0)), (1, .ref (ad k 15 0)), (2, .int (nI (d))), (3, .int num), (4, .int 2)]) hc dX9_hears_7 (by decide) rfl ?_
    refine rm_bipush (v := 30) hc dX9_hears_9 (by decide) ?_
    refine rm_bipush (v := 22) hc dX9_hears_11 (by decide) ?_
    refine rm_iload_n hc dX9_hears_13 rfl rfl ?_
    refine rm_imul hc dX9_hears_14 (fun v_10 e_10 => ?_)
    obtain rfl : v_10 = (nI (22 * d)) := e_10.trans (nmul (m := 22) (n := d) (by omega))
    clear e_10
    refine rm_iadd hc dX9_hears_15 (fun v_11 e_11 => ?_)
    obtain rfl : v_11 = (nI (30 + 22 * d)) := e_11.trans (nadd (m := 30) (n := 22 * d) (by omega))
    clear e_11
    refine rm_istore (ls' := [(0, .ref (ad 15 14 0)), (1, .ref (ad k 15 0)), (2, .int (nI (d))), (3, .int num), (4, .int 2), (5, .int (nI (30 + 22 * d)))]) hc dX9_hears_16 (by decide) rfl ?_
    refine rm_iload hc dX9_hears_18 rfl ?_
    refine rm_iconst (v := 3) hc dX9_hears_20 (by decide) ?_
    refine rm_icmp_ne (tgt := 37) hc dX9_hears_21 (by decide) (fun _ => ?_) (fun h => absurd h (by decide))
    refine rm_iload hc dX9_hears_37 rfl ?_
    refine rm_iconst (v := 2) hc dX9_hears_39 (by decide) ?_
    refine rm_icmp_ne (tgt := 66) hc dX9_hears_40 (by decide) (fun h => absurd h (by decide)) (fun _ => ?_)
    refine rm_aload_n hc dX9_hears_43 rfl rfl ?_
    refine rm_iload hc dX9_hears_44 rfl ?_
    refine rm_iconst (v := 1) hc dX9_hears_46 (by decide) ?_
    refine rm_iadd hc dX9_hears_47 (fun v_14 e_14 => ?_)
    obtain rfl : v_14 = (nI (31 + 22 * d)) := e_14.trans (nadd (m := 30 + 22 * d) (n := 1) (by omega))
    clear e_14
    refine rm_dup2 hc dX9_hears_48 rfl rfl ?_
    refine rm_iald (i := 31 + 22 * d) hc dX9_hears_49 (dm_15 (by omega)) rfl (by omega) (by decide) rfl (fun v_15 e_15 => ?_)
    refine rm_iconst (v := 1) hc dX9_hears_50 (by decide) ?_
    refine rm_iadd hc dX9_hears_51 (fun v_16 e_16 => ?_)
    refine rm_iast (i := 31 + 22 * d) hc dX9_hears_52 (dm_15 (by omega)) rfl (by omega) (by decide) rfl (so_15 (by omega)) (rm_nm (fun x_17 ex_17 => ?_))
    refine rm_aload_n hc dX9_hears_53 rfl rfl ?_
    refine rm_iload hc dX9_hears_54 rfl ?_
    refine rm_iconst (v := 4) hc dX9_hears_56 (by decide) ?_
    refine rm_iadd hc dX9_hears_57 (fun v_18 e_18 => ?_)
    obtain rfl : v_18 = (nI (34 + 22 * d)) := e_18.trans (nadd (m := 30 + 22 * d) (n := 4) (by omega))
    clear e_18
    refine rm_dup2 hc dX9_hears_58 rfl rfl ?_
    refine rm_iald (i := 34 + 22 * d) hc dX9_hears_59 (dm_15 (by omega)) rfl (by omega) (by decide) rfl (fun v_19 e_19 => ?_)
    refine rm_iconst (v := 1) hc dX9_hears_60 (by decide) ?_
    refine rm_iadd hc dX9_hears_61 (fun v_20 e_20 => ?_)
    refine rm_iast (i := 34 + 22 * d) hc dX9_hears_62 (dm_15 (by omega)) rfl (by omega) (by decide) rfl (so_15 (by omega)) (rm_nm (fun x_21 ex_21 => ?_))
    refine rm_goto (tgt := 189) hc dX9_hears_63 (by decide) ?_
    refine rm_iload hc dX9_hears_189 rfl ?_
    refine rm_if_ne (tgt := 198) hc dX9_hears_191 (by decide) (fun _ => ?_) (fun h => absurd h (by decide))
    refine rm_iconst (v := 0) hc dX9_hears_198 (by decide) ?_
    exact rm_zret hc dX9_hears_199 rfl ⟨by rw [hR]; decide, by rw [hH]; subst_vars; exact (hM.upq (by rw [hM.at (by omega)])).upq (by rw [up_n _ _ (by omega), hM.at (by omega)])⟩
  · --
    obtain ⟨hy6, hy7⟩ := hmf s0 t0 hs4 hmean hL
    rcases hRS d hd3 s0 (by omega) with hL0 | ⟨hL1, sa, la, hsa, hla, hs7, hs8, hs9⟩
    · exact absurd hL0 hne
    rcases hT with ⟨hT, hR, hH⟩ | ⟨hT, hR, hH⟩
    · --0
      obtain rfl : r_1 = 0 := e_1.trans hR
      refine rm_istore (ls' := [(0, .ref (ad 15 14 0)), (1, .ref (ad k 15 0)), (2, .int (nI (d))), (3, .int num), (4, .int 0)]) hc dX9_hears_7 (by decide) rfl ?_
      refine rm_bipush (v := 30) hc dX9_hears_9 (by decide) ?_
      refine rm_bipush (v := 22) hc dX9_hears_11 (by decide) ?_
      refine rm_iload_n hc dX9_hears_13 rfl rfl ?_
      refine rm_imul hc dX9_hears_14 (fun v_23 e_23 => ?_)
      obtain rfl : v_23 = (nI (22 * d)) := e_23.trans (nmul (m := 22) (n := d) (by omega))
      clear e_23
      refine rm_iadd hc dX9_hears_15 (fun v_24 e_24 => ?_)
      obtain rfl : v_24 = (nI (30 + 22 * d)) := e_24.trans (nadd (m := 30) (n := 22 * d) (by omega))
      clear e_24
      refine rm_istore (ls' := [(0, .ref (ad 15 14 0)), (1, .ref (ad k 15 0)), (2, .int (nI (d))), (3, .int num), (4, .int 0), (5, .int (nI (30 + 22 * d)))]) hc dX9_hears_16 (by decide) rfl ?_
      refine rm_iload hc dX9_hears_18 rfl ?_
      refine rm_iconst (v := 3) hc dX9_hears_20 (by decide) ?_
      refine rm_icmp_ne (tgt := 37) hc dX9_hears_21 (by decide) (fun _ => ?_) (fun h => absurd h (by decide))
      refine rm_iload hc dX9_hears_37 rfl ?_
      refine rm_iconst (v := 2) hc dX9_hears_39 (by decide) ?_
      refine rm_icmp_ne (tgt := 66) hc dX9_hears_40 (by decide) (fun _ => ?_) (fun h => absurd h (by decide))
      refine rm_iload_n hc dX9_hears_66 rfl rfl ?_
      refine rm_aload_n hc dX9_hears_67 rfl rfl ?_
      refine rm_geti hc dX9_hears_68 fl_X9_50 dm_14 rfl rfl (fun v_27 e_27 => ?_)
      obtain rfl : v_27 = nI s0 := e_27.trans hy6
      refine rm_calliS (As := [.int (nI (d)), .int (nI (s0))]) (rest := []) hc dX9_hears_71 (c_X9_slotAt hI y_1 (d := d) (s0 := s0) (by omega) (by omega)) ms_X9_56 (hn := rfl) (hst := rfl) (hw := Nat.le_of_ble_eq_true rfl) (hR := ⟨⟨rfl, rfl⟩, Nat.le_of_ble_eq_true rfl, Nat.le_of_ble_eq_true rfl⟩) (hnc := ⟨Nat.zero_le _, Nat.zero_le _⟩) (fun r_28 y_28 h_28 => ?_)
      obtain ⟨e_28, ey_28⟩ := h_28
      obtain rfl := ey_28.symm
      obtain rfl : r_28 = (nI (36 + 22 * d + 4 * s0)) := e_28
      refine rm_istore (ls' := [(0, .ref (ad 15 14 0)), (1, .ref (ad k 15 0)), (2, .int (nI (d))), (3, .int num), (4, .int 0), (5, .int (nI (30 + 22 * d))), (6, .int (nI (36 + 22 * d + 4 * s0)))]) hc dX9_hears_74 (by decide) rfl ?_
      refine rm_aload_n hc dX9_hears_76 rfl rfl ?_
      refine rm_iload hc dX9_hears_77 rfl ?_
      refine rm_iconst (v := 2) hc dX9_hears_79 (by decide) ?_
      refine rm_iadd hc dX9_hears_80 (fun v_29 e_29 => ?_)
      obtain rfl : v_29 = (nI (38 + 22 * d + 4 * s0)) := e_29.trans (nadd (m := 36 + 22 * d + 4 * s0) (n := 2) (by omega))
      clear e_29
      refine rm_iald (i := 38 + 22 * d + 4 * s0) hc dX9_hears_81 (dm_15 (by omega)) rfl (by omega) (by decide) rfl (fun v_30 e_30 => ?_)
      obtain rfl : v_30 = (nI (la)) := e_30.trans ((hM.at (by omega)).trans hs8)
      refine rm_aload_n hc dX9_hears_82 rfl rfl ?_
      refine rm_geti hc dX9_hears_83 fl_X9_53 dm_14 rfl rfl (fun v_31 e_31 => ?_)
      obtain rfl : v_31 = nI t0 := e_31.trans hy7
      refine rm_calliS (As := [.int (nI (la)), .int (nI (t0))]) (rest := []) hc dX9_hears_86 (c_X9_ahead hI y_1 (a := la) (b := t0) (by omega) (by omega)) ms_X9_60 (hn := rfl) (hst := rfl) (hw := Nat.le_of_ble_eq_true rfl) (hR := ⟨⟨rfl, rfl⟩, Nat.le_of_ble_eq_true rfl, Nat.le_of_ble_eq_true rfl⟩) (hnc := ⟨Nat.zero_le _, Nat.zero_le _⟩) (fun r_32 y_32 h_32 => ?_)
      obtain ⟨e_32, ey_32⟩ := h_32
      obtain rfl := ey_32.symm
      obtain ⟨n_32, hn_32⟩ : ∃ n_32 : Nat, n_32 = (la + t0) % 10000 := ⟨_, rfl⟩
      have hl_32 : n_32 < 10000 := by omega
      obtain rfl : r_32 = nI n_32 := by rw [hn_32]; exact e_32
      refine rm_istore (ls' := [(0, .ref (ad 15 14 0)), (1, .ref (ad k 15 0)), (2, .int (nI (d))), (3, .int num), (4, .int 0), (5, .int (nI (30 + 22 * d))), (6, .int (nI (36 + 22 * d + 4 * s0))), (7, .int (nI (n_32)))]) hc dX9_hears_89 (by decide) rfl ?_
      refine rm_aload_n hc dX9_hears_91 rfl rfl ?_
      refine rm_iload hc dX9_hears_92 rfl ?_
      refine rm_iconst (v := 3) hc dX9_hears_94 (by decide) ?_
      refine rm_iadd hc dX9_hears_95 (fun v_33 e_33 => ?_)
      obtain rfl : v_33 = (nI (39 + 22 * d + 4 * s0)) := e_33.trans (nadd (m := 36 + 22 * d + 4 * s0) (n := 3) (by omega))
      clear e_33
      refine rm_iload hc dX9_hears_96 rfl ?_
      refine rm_iconst (v := 1) hc dX9_hears_98 (by decide) ?_
      refine rm_icmp_ne (tgt := 107) hc dX9_hears_99 (by decide) (fun _ => ?_) (fun h => absurd h (by decide))
      refine rm_iconst (v := -1) hc dX9_hears_107 (by decide) ?_
      refine rm_iast (i := 39 + 22 * d + 4 * s0) hc dX9_hears_108 (dm_15 (by omega)) rfl (by omega) (by decide) rfl (so_15 (by omega)) (rm_nm (fun x_35 ex_35 => ?_))
      refine rm_aload_n hc dX9_hears_109 rfl rfl ?_
      refine rm_iload hc dX9_hears_110 rfl ?_
      refine rm_iconst (v := 2) hc dX9_hears_112 (by decide) ?_
      refine rm_iadd hc dX9_hears_113 (fun v_36 e_36 => ?_)
      obtain rfl : v_36 = (nI (38 + 22 * d + 4 * s0)) := e_36.trans (nadd (m := 36 + 22 * d + 4 * s0) (n := 2) (by omega))
      clear e_36
      refine rm_iload hc dX9_hears_114 rfl ?_
      refine rm_iconst (v := 1) hc dX9_hears_116 (by decide) ?_
      refine rm_icmp_ne (tgt := 129) hc dX9_hears_117 (by decide) (fun _ => ?_) (fun h => absurd h (by decide))
      refine rm_iload hc dX9_hears_129 rfl ?_
      refine rm_iast (i := 38 + 22 * d + 4 * s0) hc dX9_hears_131 (dm_15 (by omega)) rfl (by omega) (by decide) rfl (so_15 (by omega)) (rm_nm (fun x_38 ex_38 => ?_))
      refine rm_aload_n hc dX9_hears_132 rfl rfl ?_
      refine rm_iload hc dX9_hears_133 rfl ?_
      refine rm_iload hc dX9_hears_135 rfl ?_
      refine rm_if_ne (tgt := 144) hc dX9_hears_137 (by decide) (fun h => absurd h (by decide)) (fun _ => ?_)
      refine rm_iconst (v := 1) hc dX9_hears_140 (by decide) ?_
      refine rm_goto (tgt := 148) hc dX9_hears_141 (by decide) ?_
      refine rm_iast (i := 30 + 22 * d) hc dX9_hears_148 (dm_15 (by omega)) rfl (by omega) (by decide) rfl (so_15 (by omega)) (rm_nm (fun x_40 ex_40 => ?_))
      refine rm_aload_n hc dX9_hears_149 rfl rfl ?_
      refine rm_iload hc dX9_hears_150 rfl ?_
      refine rm_iconst (v := 1) hc dX9_hears_152 (by decide) ?_
      refine rm_iadd hc dX9_hears_153 (fun v_41 e_41 => ?_)
      obtain rfl : v_41 = (nI (31 + 22 * d)) := e_41.trans (nadd (m := 30 + 22 * d) (n := 1) (by omega))
      clear e_41
      refine rm_iload hc dX9_hears_154 rfl ?_
      refine rm_if_ne (tgt := 163) hc dX9_hears_156 (by decide) (fun h => absurd h (by decide)) (fun _ => ?_)
      refine rm_iconst (v := 0) hc dX9_hears_159 (by decide) ?_
      refine rm_goto (tgt := 169) hc dX9_hears_160 (by decide) ?_
      refine rm_iast (i := 31 + 22 * d) hc dX9_hears_169 (dm_15 (by omega)) rfl (by omega) (by decide) rfl (so_15 (by omega)) (rm_nm (fun x_43 ex_43 => ?_))
      refine rm_aload_n hc dX9_hears_170 rfl rfl ?_
      refine rm_iload hc dX9_hears_171 rfl ?_
      refine rm_iload hc dX9_hears_173 rfl ?_
      refine rm_if_ne (tgt := 182) hc dX9_hears_175 (by decide) (fun h => absurd h (by decide)) (fun _ => ?_)
      refine rm_iconst (v := 2) hc dX9_hears_178 (by decide) ?_
      refine rm_goto (tgt := 183) hc dX9_hears_179 (by decide) ?_
      refine rm_iadd hc dX9_hears_183 (fun v_45 e_45 => ?_)
      obtain rfl : v_45 = (nI (32 + 22 * d)) := e_45.trans (nadd (m := 30 + 22 * d) (n := 2) (by omega))
      clear e_45
      refine rm_dup2 hc dX9_hears_184 rfl rfl ?_
      refine rm_iald (i := 32 + 22 * d) hc dX9_hears_185 (dm_15 (by omega)) rfl (by omega) (by decide) rfl (fun v_46 e_46 => ?_)
      refine rm_iconst (v := 1) hc dX9_hears_186 (by decide) ?_
      refine rm_iadd hc dX9_hears_187 (fun v_47 e_47 => ?_)
      refine rm_iast (i := 32 + 22 * d) hc dX9_hears_188 (dm_15 (by omega)) rfl (by omega) (by decide) rfl (so_15 (by omega)) (rm_nm (fun x_48 ex_48 => ?_))
      refine rm_iload hc dX9_hears_189 rfl ?_
      refine rm_if_ne (tgt := 198) hc dX9_hears_191 (by decide) (fun h => absurd h (by decide)) (fun _ => ?_)
      refine rm_iconst (v := 1) hc dX9_hears_194 (by decide) ?_
      refine rm_goto (tgt := 199) hc dX9_hears_195 (by decide) ?_
      exact rm_zret hc dX9_hears_199 rfl ⟨by rw [hR]; decide, by rw [hH]; have hN : nI n_32 = ctr (x k (38 + 22 * d + 4 * s0)) (nI t0) := by { rw [hs8, ctr_n hla (by omega), hn_32] }; clear hn_32 hs8 hs7; subst_vars; exact hrs_0 hM (by omega) hs4 hN rfl⟩
    · --1
      obtain rfl : r_1 = 1 := e_1.trans hR
      refine rm_istore (ls' := [(0, .ref (ad 15 14 0)), (1, .ref (ad k 15 0)), (2, .int (nI (d))), (3, .int num), (4, .int 1)]) hc dX9_hears_7 (by decide) rfl ?_
      refine rm_bipush (v := 30) hc dX9_hears_9 (by decide) ?_
      refine rm_bipush (v := 22) hc dX9_hears_11 (by decide) ?_
      refine rm_iload_n hc dX9_hears_13 rfl rfl ?_
      refine rm_imul hc dX9_hears_14 (fun v_50 e_50 => ?_)
      obtain rfl : v_50 = (nI (22 * d)) := e_50.trans (nmul (m := 22) (n := d) (by omega))
      clear e_50
      refine rm_iadd hc dX9_hears_15 (fun v_51 e_51 => ?_)
      obtain rfl : v_51 = (nI (30 + 22 * d)) := e_51.trans (nadd (m := 30) (n := 22 * d) (by omega))
      clear e_51
      refine rm_istore (ls' := [(0, .ref (ad 15 14 0)), (1, .ref (ad k 15 0)), (2, .int (nI (d))), (3, .int num), (4, .int 1), (5, .int (nI (30 + 22 * d)))]) hc dX9_hears_16 (by decide) rfl ?_
      refine rm_iload hc dX9_hears_18 rfl ?_
      refine rm_iconst (v := 3) hc dX9_hears_20 (by decide) ?_
      refine rm_icmp_ne (tgt := 37) hc dX9_hears_21 (by decide) (fun _ => ?_) (fun h => absurd h (by decide))
      refine rm_iload hc dX9_hears_37 rfl ?_
      refine rm_iconst (v := 2) hc dX9_hears_39 (by decide) ?_
      refine rm_icmp_ne (tgt := 66) hc dX9_hears_40 (by decide) (fun _ => ?_) (fun h => absurd h (by decide))
      refine rm_iload_n hc dX9_hears_66 rfl rfl ?_
      refine rm_aload_n hc dX9_hears_67 rfl rfl ?_
      refine rm_geti hc dX9_hears_68 fl_X9_50 dm_14 rfl rfl (fun v_54 e_54 => ?_)
      obtain rfl : v_54 = nI s0 := e_54.trans hy6
      refine rm_calliS (As := [.int (nI (d)), .int (nI (s0))]) (rest := []) hc dX9_hears_71 (c_X9_slotAt hI y_1 (d := d) (s0 := s0) (by omega) (by omega)) ms_X9_56 (hn := rfl) (hst := rfl) (hw := Nat.le_of_ble_eq_true rfl) (hR := ⟨⟨rfl, rfl⟩, Nat.le_of_ble_eq_true rfl, Nat.le_of_ble_eq_true rfl⟩) (hnc := ⟨Nat.zero_le _, Nat.zero_le _⟩) (fun r_55 y_55 h_55 => ?_)
      obtain ⟨e_55, ey_55⟩ := h_55
      obtain rfl := ey_55.symm
      obtain rfl : r_55 = (nI (36 + 22 * d + 4 * s0)) := e_55
      refine rm_istore (ls' := [(0, .ref (ad 15 14 0)), (1, .ref (ad k 15 0)), (2, .int (nI (d))), (3, .int num), (4, .int 1), (5, .int (nI (30 + 22 * d))), (6, .int (nI (36 + 22 * d + 4 * s0)))]) hc dX9_hears_74 (by decide) rfl ?_
      refine rm_aload_n hc dX9_hears_76 rfl rfl ?_
      refine rm_iload hc dX9_hears_77 rfl ?_
      refine rm_iconst (v := 2) hc dX9_hears_79 (by decide) ?_
      refine rm_iadd hc dX9_hears_80 (fun v_56 e_56 => ?_)
      obtain rfl : v_56 = (nI (38 + 22 * d + 4 * s0)) := e_56.trans (nadd (m := 36 + 22 * d + 4 * s0) (n := 2) (by omega))
      clear e_56
      refine rm_iald (i := 38 + 22 * d + 4 * s0) hc dX9_hears_81 (dm_15 (by omega)) rfl (by omega) (by decide) rfl (fun v_57 e_57 => ?_)
      obtain rfl : v_57 = (nI (la)) := e_57.trans ((hM.at (by omega)).trans hs8)
      refine rm_aload_n hc dX9_hears_82 rfl rfl ?_
      refine rm_geti hc dX9_hears_83 fl_X9_53 dm_14 rfl rfl (fun v_58 e_58 => ?_)
      obtain rfl : v_58 = nI t0 := e_58.trans hy7
      refine rm_calliS (As := [.int (nI (la)), .int (nI (t0))]) (rest := []) hc dX9_hears_86 (c_X9_ahead hI y_1 (a := la) (b := t0) (by omega) (by omega)) ms_X9_60 (hn := rfl) (hst := rfl) (hw := Nat.le_of_ble_eq_true rfl) (hR := ⟨⟨rfl, rfl⟩, Nat.le_of_ble_eq_true rfl, Nat.le_of_ble_eq_true rfl⟩) (hnc := ⟨Nat.zero_le _, Nat.zero_le _⟩) (fun r_59 y_59 h_59 => ?_)
      obtain ⟨e_59, ey_59⟩ := h_59
      obtain rfl := ey_59.symm
      obtain ⟨n_59, hn_59⟩ : ∃ n_59 : Nat, n_59 = (la + t0) % 10000 := ⟨_, rfl⟩
      have hl_59 : n_59 < 10000 := by omega
      obtain rfl : r_59 = nI n_59 := by rw [hn_59]; exact e_59
      refine rm_istore (ls' := [(0, .ref (ad 15 14 0)), (1, .ref (ad k 15 0)), (2, .int (nI (d))), (3, .int num), (4, .int 1), (5, .int (nI (30 + 22 * d))), (6, .int (nI (36 + 22 * d + 4 * s0))), (7, .int (nI (n_59)))]) hc dX9_hears_89 (by decide) rfl ?_
      refine rm_aload_n hc dX9_hears_91 rfl rfl ?_
      refine rm_iload hc dX9_hears_92 rfl ?_
      refine rm_iconst (v := 3) hc dX9_hears_94 (by decide) ?_
      refine rm_iadd hc dX9_hears_95 (fun v_60 e_60 => ?_)
      obtain rfl : v_60 = (nI (39 + 22 * d + 4 * s0)) := e_60.trans (nadd (m := 36 + 22 * d + 4 * s0) (n := 3) (by omega))
      clear e_60
      refine rm_iload hc dX9_hears_96 rfl ?_
      refine rm_iconst (v := 1) hc dX9_hears_98 (by decide) ?_
      refine rm_icmp_ne (tgt := 107) hc dX9_hears_99 (by decide) (fun h => absurd h (by decide)) (fun _ => ?_)
      refine rm_iload hc dX9_hears_102 rfl ?_
      refine rm_goto (tgt := 108) hc dX9_hears_104 (by decide) ?_
      refine rm_iast (i := 39 + 22 * d + 4 * s0) hc dX9_hears_108 (dm_15 (by omega)) rfl (by omega) (by decide) rfl (so_15 (by omega)) (rm_nm (fun x_62 ex_62 => ?_))
      refine rm_aload_n hc dX9_hears_109 rfl rfl ?_
      refine rm_iload hc dX9_hears_110 rfl ?_
      refine rm_iconst (v := 2) hc dX9_hears_112 (by decide) ?_
      refine rm_iadd hc dX9_hears_113 (fun v_63 e_63 => ?_)
      obtain rfl : v_63 = (nI (38 + 22 * d + 4 * s0)) := e_63.trans (nadd (m := 36 + 22 * d + 4 * s0) (n := 2) (by omega))
      clear e_63
      refine rm_iload hc dX9_hears_114 rfl ?_
      refine rm_iconst (v := 1) hc dX9_hears_116 (by decide) ?_
      refine rm_icmp_ne (tgt := 129) hc dX9_hears_117 (by decide) (fun h => absurd h (by decide)) (fun _ => ?_)
      refine rm_aload_n hc dX9_hears_120 rfl rfl ?_
      refine rm_iload hc dX9_hears_121 rfl ?_
      refine rm_iconst (v := 2) hc dX9_hears_123 (by decide) ?_
      refine rm_iadd hc dX9_hears_124 (fun v_65 e_65 => ?_)
      obtain rfl : v_65 = (nI (38 + 22 * d + 4 * s0)) := e_65.trans (nadd (m := 36 + 22 * d + 4 * s0) (n := 2) (by omega))
      clear e_65
      refine rm_iald (i := 38 + 22 * d + 4 * s0) hc dX9_hears_125 (dm_15 (by omega)) rfl (by omega) (by decide) rfl (fun v_66 e_66 => ?_)
      refine rm_goto (tgt := 131) hc dX9_hears_126 (by decide) ?_
      refine rm_iast (i := 38 + 22 * d + 4 * s0) hc dX9_hears_131 (dm_15 (by omega)) rfl (by omega) (by decide) rfl (so_15 (by omega)) (rm_nm (fun x_67 ex_67 => ?_))
      refine rm_aload_n hc dX9_hears_132 rfl rfl ?_
      refine rm_iload hc dX9_hears_133 rfl ?_
      refine rm_iload hc dX9_hears_135 rfl ?_
      refine rm_if_ne (tgt := 144) hc dX9_hears_137 (by decide) (fun _ => ?_) (fun h => absurd h (by decide))
      refine rm_aload_n hc dX9_hears_144 rfl rfl ?_
      refine rm_iload hc dX9_hears_145 rfl ?_
      refine rm_iald (i := 30 + 22 * d) hc dX9_hears_147 (dm_15 (by omega)) rfl (by omega) (by decide) rfl (fun v_69 e_69 => ?_)
      refine rm_iast (i := 30 + 22 * d) hc dX9_hears_148 (dm_15 (by omega)) rfl (by omega) (by decide) rfl (so_15 (by omega)) (rm_nm (fun x_70 ex_70 => ?_))
      refine rm_aload_n hc dX9_hears_149 rfl rfl ?_
      refine rm_iload hc dX9_hears_150 rfl ?_
      refine rm_iconst (v := 1) hc dX9_hears_152 (by decide) ?_
      refine rm_iadd hc dX9_hears_153 (fun v_71 e_71 => ?_)
      obtain rfl : v_71 = (nI (31 + 22 * d)) := e_71.trans (nadd (m := 30 + 22 * d) (n := 1) (by omega))
      clear e_71
      refine rm_iload hc dX9_hears_154 rfl ?_
      refine rm_if_ne (tgt := 163) hc dX9_hears_156 (by decide) (fun _ => ?_) (fun h => absurd h (by decide))
      refine rm_aload_n hc dX9_hears_163 rfl rfl ?_
      refine rm_iload hc dX9_hears_164 rfl ?_
      refine rm_iconst (v := 1) hc dX9_hears_166 (by decide) ?_
      refine rm_iadd hc dX9_hears_167 (fun v_73 e_73 => ?_)
      obtain rfl : v_73 = (nI (31 + 22 * d)) := e_73.trans (nadd (m := 30 + 22 * d) (n := 1) (by omega))
      clear e_73
      refine rm_iald (i := 31 + 22 * d) hc dX9_hears_168 (dm_15 (by omega)) rfl (by omega) (by decide) rfl (fun v_74 e_74 => ?_)
      refine rm_iast (i := 31 + 22 * d) hc dX9_hears_169 (dm_15 (by omega)) rfl (by omega) (by decide) rfl (so_15 (by omega)) (rm_nm (fun x_75 ex_75 => ?_))
      refine rm_aload_n hc dX9_hears_170 rfl rfl ?_
      refine rm_iload hc dX9_hears_171 rfl ?_
      refine rm_iload hc dX9_hears_173 rfl ?_
      refine rm_if_ne (tgt := 182) hc dX9_hears_175 (by decide) (fun _ => ?_) (fun h => absurd h (by decide))
      refine rm_iconst (v := 3) hc dX9_hears_182 (by decide) ?_
      refine rm_iadd hc dX9_hears_183 (fun v_77 e_77 => ?_)
      obtain rfl : v_77 = (nI (33 + 22 * d)) := e_77.trans (nadd (m := 30 + 22 * d) (n := 3) (by omega))
      clear e_77
      refine rm_dup2 hc dX9_hears_184 rfl rfl ?_
      refine rm_iald (i := 33 + 22 * d) hc dX9_hears_185 (dm_15 (by omega)) rfl (by omega) (by decide) rfl (fun v_78 e_78 => ?_)
      refine rm_iconst (v := 1) hc dX9_hears_186 (by decide) ?_
      refine rm_iadd hc dX9_hears_187 (fun v_79 e_79 => ?_)
      refine rm_iast (i := 33 + 22 * d) hc dX9_hears_188 (dm_15 (by omega)) rfl (by omega) (by decide) rfl (so_15 (by omega)) (rm_nm (fun x_80 ex_80 => ?_))
      refine rm_iload hc dX9_hears_189 rfl ?_
      refine rm_if_ne (tgt := 198) hc dX9_hears_191 (by decide) (fun _ => ?_) (fun h => absurd h (by decide))
      refine rm_iconst (v := 0) hc dX9_hears_198 (by decide) ?_
      exact rm_zret hc dX9_hears_199 rfl ⟨by rw [hR]; decide, by rw [hH]; have hN : nI n_59 = ctr (x k (38 + 22 * d + 4 * s0)) (nI t0) := by { rw [hs8, ctr_n hla (by omega), hn_59] }; clear hn_59 hs8 hs7; subst_vars; exact hrs_1 hM (by omega) hs4 hN rfl rfl rfl rfl⟩

abbrev rm_X9_heard : Room := { frames := 4, cells := 0, slots := 0, locals := 99 }
set_option maxHeartbeats 4000000 in
set_option maxRecDepth 100000 in
theorem c_X9_heard {l : Launch} {D : va_G} {cy : Nat → ClassId} {ad : Ads} (hI : IJ ad) (x : Mem) {k : Nat} (hk : k = 10 ∨ k = 11) (msk num : Int32) (hRS : RS (x k)) (mm : Nat) (hmm : mm ≤ 500) (hw : x k 1 = nI mm) : Cti l yX9_heard cX9_heard 6 (some .int) rm_X9_heard D cy ad [.ref (ad 15 14 0), .ref (ad k 15 0), .int msk, .int num] x (fun r y => r = (sendS x k msk num mm 3).1 ∧ M7 (sendS x k msk num mm 3).2 y) := by
  refine rm_entry (Qc := Qi D cy ad (fun r y => r = (sendS x k msk num mm 3).1 ∧ M7 (sendS x k msk num mm 3).2 y)) hI (by decide) (Nat.le_of_ble_eq_true rfl) ?_
  intro p e s m args below meth c hc
  show RM _ _ _ _ _ _ _ _ _ _ _ _ _ _ _ _ _ [(0, .ref (ad 15 14 0)), (1, .ref (ad k 15 0)), (2, .int msk), (3, .int num)] []
  refine rm_iconst (v := 0) hc dX9_heard_0 (by decide) ?_
  refine rm_istore (ls' := [(0, .ref (ad 15 14 0)), (1, .ref (ad k 15 0)), (2, .int msk), (3, .int num), (4, .int 0)]) hc dX9_heard_1 (by decide) rfl ?_
  refine rm_iconst (v := 0) hc dX9_heard_3 (by decide) ?_
  refine rm_istore (ls' := [(0, .ref (ad 15 14 0)), (1, .ref (ad k 15 0)), (2, .int msk), (3, .int num), (4, .int 0), (5, .int 0)]) hc dX9_heard_4 (by decide) rfl ?_
  have key6 : ∀ (f : Nat) (i : Nat) (zm : Mem) (ac : Int32), i + f = 3 → M7 (sendS x k msk num mm i).2 zm → ac = (sendS x k msk num mm i).1 → RM p l e rm_X9_heard s m args below meth c 6 (AA ad s.heap.size) (GG D cy ad zm) 0 0 (QQ (Qi D cy ad (fun r y => r = (sendS x k msk num mm 3).1 ∧ M7 (sendS x k msk num mm 3).2 y)) below args s ad) 6 [(0, .ref (ad 15 14 0)), (1, .ref (ad k 15 0)), (2, .int msk), (3, .int num), (4, .int ac), (5, .int (nI (i)))] [] := by
    intro f
    induction f with
    | zero =>
      intro i zm ac hif hM hac
      refine rm_iload hc dX9_heard_6 rfl ?_
      refine rm_iconst (v := 3) hc dX9_heard_8 (by decide) ?_
      refine rm_icmp_ge (tgt := 52) hc dX9_heard_9 (by decide) (fun _ => ?_) (fun h => absurd ((nI_leI (a := 3) (b := i) (by omega) (by omega)).mpr (by omega)) h)
      refine rm_iload hc dX9_heard_52 rfl ?_
      exact rm_iret hc dX9_heard_54 ⟨by rw [hac, show i = 3 by omega], by rw [show i = 3 by omega] at hM; exact hM⟩
    | succ f ih =>
      intro i zm ac hif hM hac
      refine rm_iload hc dX9_heard_6 rfl ?_
      refine rm_iconst (v := 3) hc dX9_heard_8 (by decide) ?_
      refine rm_icmp_ge (tgt := 52) hc dX9_heard_9 (by decide) (fun h => absurd h (fun h2 => absurd ((nI_leI (a := 3) (b := i) (by omega) (by omega)).mp h2) (by omega))) (fun _ => ?_)
      refine rm_iload hc dX9_heard_12 rfl ?_
      refine rm_iload_n hc dX9_heard_14 rfl rfl ?_
      refine rm_iload hc dX9_heard_15 rfl ?_
      refine rm_ishr hc dX9_heard_17 (fun v_3 e_3 => ?_)
      refine rm_iconst (v := 1) hc dX9_heard_18 (by decide) ?_
      refine rm_iand hc dX9_heard_19 (fun v_4 e_4 => ?_)
      refine rm_iconst (v := 1) hc dX9_heard_20 (by decide) ?_
      refine rm_icmp_ne (tgt := 42) hc dX9_heard_21 (by decide) (fun c_5 => ?_) (fun c_5 => ?_)
      · --
        have hb : ¬ (msk >>> (nI i &&& 31)) &&& 1 = 1 := fun h => c_5 (by rw [e_4, e_3]; exact h)
        refine rm_iconst (v := 0) hc dX9_heard_42 (by decide) ?_
        refine rm_ior hc dX9_heard_43 (fun v_6 e_6 => ?_)
        refine rm_istore (ls' := [(0, .ref (ad 15 14 0)), (1, .ref (ad k 15 0)), (2, .int msk), (3, .int num), (4, .int v_6), (5, .int (nI (i)))]) hc dX9_heard_44 (by decide) rfl ?_
        refine rm_iinc (v := (nI (i + 1))) (ls' := [(0, .ref (ad 15 14 0)), (1, .ref (ad k 15 0)), (2, .int msk), (3, .int num), (4, .int v_6), (5, .int (nI (i + 1)))]) hc dX9_heard_46 rfl (nIj (by omega)) (by decide) rfl ?_
        refine rm_goto (tgt := 6) hc dX9_heard_49 (by decide) ?_
        exact ih (i + 1) _ _ (by omega) (by rw [sendS_n hb]; exact hM) (by rw [sendS_n hb, ← hac]; subst_vars; exact or0 _)
      · --
        have hb : (msk >>> (nI i &&& 31)) &&& 1 = 1 := by rw [← e_3, ← e_4]; exact c_5
        refine rm_aload_n hc dX9_heard_24 rfl rfl ?_
        refine rm_aload_n hc dX9_heard_25 rfl rfl ?_
        refine rm_iload hc dX9_heard_26 rfl ?_
        refine rm_iload_n hc dX9_heard_28 rfl rfl ?_
        refine rm_calliV (As := [.ref (ad k 15 0), .int (nI (i)), .int num]) (rest := [.int ac]) hc dX9_heard_29 (c_X9_hears hI zm (k := k) (d := i) (by omega) (by omega) num (by rw [hM.blk (by omega)]; exact RS.snd hRS hmm i (by omega)) mm (by omega) ((hM.at (by omega)).trans ((sendS_lo (by omega) i).trans hw))) mv_X9_78 dm_14 rfl rfl (hn := rfl) (hst := rfl) (hw := Nat.le_of_ble_eq_true rfl) (hR := ⟨⟨rfl, rfl⟩, Nat.le_of_ble_eq_true rfl, Nat.le_of_ble_eq_true rfl⟩) (hnc := ⟨Nat.zero_le _, Nat.zero_le _⟩) (fun r_7 y_7 h_7 => ?_)
        obtain ⟨e_7, hM_7⟩ := h_7
        refine rm_if_eq (tgt := 42) hc dX9_heard_32 (by decide) (fun c_8 => ?_) (fun c_8 => ?_)
        · --
          have ho : ¬ hrR (sendS x k msk num mm i).2 k i k num mm = 0 := fun h => absurd (c_8.symm.trans (e_7.trans (if_pos (by rw [hrR_blk (hM.blk (by omega))]; exact h)))) (by decide)
          refine rm_iconst (v := 0) hc dX9_heard_42 (by decide) ?_
          refine rm_ior hc dX9_heard_43 (fun v_9 e_9 => ?_)
          refine rm_istore (ls' := [(0, .ref (ad 15 14 0)), (1, .ref (ad k 15 0)), (2, .int msk), (3, .int num), (4, .int v_9), (5, .int (nI (i)))]) hc dX9_heard_44 (by decide) rfl ?_
          refine rm_iinc (v := (nI (i + 1))) (ls' := [(0, .ref (ad 15 14 0)), (1, .ref (ad k 15 0)), (2, .int msk), (3, .int num), (4, .int v_9), (5, .int (nI (i + 1)))]) hc dX9_heard_46 rfl (nIj (by omega)) (by decide) rfl ?_
          refine rm_goto (tgt := 6) hc dX9_heard_49 (by decide) ?_
          exact ih (i + 1) _ _ (by omega) (by rw [sendS_y hb]; exact (hM.hrM (by omega)).tr hM_7) (by rw [sendS_y hb]; show _ = (if _ then _ else _); rw [if_neg ho, ← hac]; subst_vars; exact or0 _)
        · --
          have ho : hrR (sendS x k msk num mm i).2 k i k num mm = 0 := Decidable.byContradiction fun h => c_8 (e_7.trans (if_neg (by rw [hrR_blk (hM.blk (by omega))]; exact h)))
          refine rm_iconst (v := 1) hc dX9_heard_35 (by decide) ?_
          refine rm_iload hc dX9_heard_36 rfl ?_
          refine rm_ishl hc dX9_heard_38 (fun v_10 e_10 => ?_)
          refine rm_goto (tgt := 43) hc dX9_heard_39 (by decide) ?_
          refine rm_ior hc dX9_heard_43 (fun v_11 e_11 => ?_)
          refine rm_istore (ls' := [(0, .ref (ad 15 14 0)), (1, .ref (ad k 15 0)), (2, .int msk), (3, .int num), (4, .int v_11), (5, .int (nI (i)))]) hc dX9_heard_44 (by decide) rfl ?_
          refine rm_iinc (v := (nI (i + 1))) (ls' := [(0, .ref (ad 15 14 0)), (1, .ref (ad k 15 0)), (2, .int msk), (3, .int num), (4, .int v_11), (5, .int (nI (i + 1)))]) hc dX9_heard_46 rfl (nIj (by omega)) (by decide) rfl ?_
          refine rm_goto (tgt := 6) hc dX9_heard_49 (by decide) ?_
          exact ih (i + 1) _ _ (by omega) (by rw [sendS_y hb]; exact (hM.hrM (by omega)).tr hM_7) (by rw [sendS_y hb]; show _ = (if _ then _ else _); rw [if_pos ho, ← hac]; subst_vars; rfl)
  exact key6 3 0 _ _ (by omega) (M7.rf x) rfl

abbrev rm_X9_next : Room := { frames := 1, cells := 0, slots := 0, locals := 21 }
set_option maxHeartbeats 4000000 in
set_option maxRecDepth 100000 in
theorem c_X9_next {l : Launch} {D : va_G} {cy : Nat → ClassId} {ad : Ads} (hI : IJ ad) (x : Mem) {k j : Nat} (hk : k = 10 ∨ k = 11) (hj : j < 4) (hRF : RF (x k)) : Cti l yX9_next cX9_next 2 (some .int) rm_X9_next D cy ad [.ref (ad k 15 0), .int (nI (j))] x (fun r y => r = nxtN x k j ∧ y = x) := by
  obtain ⟨fa, fb, hfa, hfb, hf4, hf5⟩ := hRF j hj
  refine rm_entry (Qc := Qi D cy ad (fun r y => r = nxtN x k j ∧ y = x)) hI (by decide) (Nat.le_of_ble_eq_true rfl) ?_
  intro p e s m args below meth c hc
  show RM _ _ _ _ _ _ _ _ _ _ _ _ _ _ _ _ _ [(0, .ref (ad k 15 0)), (1, .int (nI (j)))] []
  refine rm_aload_n hc dX9_next_0 rfl rfl ?_
  refine rm_bipush (v := 14) hc dX9_next_1 (by decide) ?_
  refine rm_iconst (v := 4) hc dX9_next_3 (by decide) ?_
  refine rm_iload_n hc dX9_next_4 rfl rfl ?_
  refine rm_imul hc dX9_next_5 (fun v_1 e_1 => ?_)
  obtain rfl : v_1 = (nI (4 * j)) := e_1.trans (nmul (m := 4) (n := j) (by omega))
  clear e_1
  refine rm_iadd hc dX9_next_6 (fun v_2 e_2 => ?_)
  obtain rfl : v_2 = (nI (14 + 4 * j)) := e_2.trans (nadd (m := 14) (n := 4 * j) (by omega))
  clear e_2
  refine rm_iald (i := 14 + 4 * j) hc dX9_next_7 (dm_15 (by omega)) rfl (by omega) (by decide) rfl (fun v_3 e_3 => ?_)
  obtain rfl : v_3 = (nI (fa)) := e_3.trans hf4
  refine rm_aload_n hc dX9_next_8 rfl rfl ?_
  refine rm_bipush (v := 14) hc dX9_next_9 (by decide) ?_
  refine rm_iconst (v := 4) hc dX9_next_11 (by decide) ?_
  refine rm_iload_n hc dX9_next_12 rfl rfl ?_
  refine rm_imul hc dX9_next_13 (fun v_4 e_4 => ?_)
  obtain rfl : v_4 = (nI (4 * j)) := e_4.trans (nmul (m := 4) (n := j) (by omega))
  clear e_4
  refine rm_iadd hc dX9_next_14 (fun v_5 e_5 => ?_)
  obtain rfl : v_5 = (nI (14 + 4 * j)) := e_5.trans (nadd (m := 14) (n := 4 * j) (by omega))
  clear e_5
  refine rm_iconst (v := 1) hc dX9_next_15 (by decide) ?_
  refine rm_iadd hc dX9_next_16 (fun v_6 e_6 => ?_)
  obtain rfl : v_6 = (nI (15 + 4 * j)) := e_6.trans (nadd (m := 14 + 4 * j) (n := 1) (by omega))
  clear e_6
  refine rm_iald (i := 15 + 4 * j) hc dX9_next_17 (dm_15 (by omega)) rfl (by omega) (by decide) rfl (fun v_7 e_7 => ?_)
  obtain rfl : v_7 = (nI (fb)) := e_7.trans hf5
  refine rm_iconst (v := 1) hc dX9_next_18 (by decide) ?_
  refine rm_calliS (As := [.int (nI (fb)), .int 1]) (rest := [.int (nI (fa))]) hc dX9_next_19 (c_X9_ahead hI x (a := fb) (b := 1) (by omega) (by omega)) ms_X9_60 (hn := rfl) (hst := rfl) (hw := Nat.le_of_ble_eq_true rfl) (hR := ⟨⟨rfl, rfl⟩, Nat.le_of_ble_eq_true rfl, Nat.le_of_ble_eq_true rfl⟩) (hnc := ⟨Nat.zero_le _, Nat.zero_le _⟩) (fun r_8 y_8 h_8 => ?_)
  obtain ⟨e_8, ey_8⟩ := h_8
  obtain rfl := ey_8.symm
  obtain ⟨n_8, hn_8⟩ : ∃ n_8 : Nat, n_8 = (fb + 1) % 10000 := ⟨_, rfl⟩
  have hl_8 : n_8 < 10000 := by omega
  obtain rfl : r_8 = nI n_8 := by rw [hn_8]; exact e_8
  refine rm_calliS (As := [.int (nI (fa)), .int (nI (n_8))]) (rest := []) hc dX9_next_22 (c_X9_numberOf hI x (a := fa) (b := n_8) (by omega) (by omega)) ms_X9_63 (hn := rfl) (hst := rfl) (hw := Nat.le_of_ble_eq_true rfl) (hR := ⟨⟨rfl, rfl⟩, Nat.le_of_ble_eq_true rfl, Nat.le_of_ble_eq_true rfl⟩) (hnc := ⟨Nat.zero_le _, Nat.zero_le _⟩) (fun r_9 y_9 h_9 => ?_)
  obtain ⟨e_9, ey_9⟩ := h_9
  obtain rfl := ey_9.symm
  exact rm_iret hc dX9_next_25 ⟨by rw [e_9]; unfold nxtN; rw [hf4, hf5, nx_n hfb, hn_8], rfl⟩

abbrev rm_X9_presses : Room := { frames := 5, cells := 0, slots := 0, locals := 124 }
set_option maxHeartbeats 4000000 in
set_option maxRecDepth 100000 in
theorem c_X9_presses {l : Launch} {D : va_G} {cy : Nat → ClassId} {ad : Ads} (hI : IJ ad) (x : Mem) {k j nr : Nat} (hk : k = 10 ∨ k = 11) (hj : j < 4) (msk : Int32) (hRS : RS (x k)) (mm : Nat) (hmm : mm ≤ 500) (hw : x k 1 = nI mm) (hRF : RF (x k)) (hnr : x k 5 = nI nr) (hr8 : nr ≤ 8) : Cti l yX9_presses cX9_presses 7 (some .int) rm_X9_presses D cy ad [.ref (ad 15 14 0), .ref (ad k 15 0), .int (nI (j)), .int msk] x (fun r y => r = (prsS x k j msk mm).1 ∧ M7 (prsS x k j msk mm).2 y) := by
  obtain ⟨fa, fb, hfa, hfb, hf4, hf5⟩ := hRF j hj
  refine rm_entry (Qc := Qi D cy ad (fun r y => r = (prsS x k j msk mm).1 ∧ M7 (prsS x k j msk mm).2 y)) hI (by decide) (Nat.le_of_ble_eq_true rfl) ?_
  intro p e s m args below meth c hc
  show RM _ _ _ _ _ _ _ _ _ _ _ _ _ _ _ _ _ [(0, .ref (ad 15 14 0)), (1, .ref (ad k 15 0)), (2, .int (nI (j))), (3, .int msk)] []
  refine rm_aload_n hc dX9_presses_0 rfl rfl ?_
  refine rm_iload_n hc dX9_presses_1 rfl rfl ?_
  refine rm_calliS (As := [.ref (ad k 15 0), .int (nI (j))]) (rest := []) hc dX9_presses_2 (c_X9_next hI x (k := k) (j := j) (by omega) (by omega) hRF) ms_X9_82 (hn := rfl) (hst := rfl) (hw := Nat.le_of_ble_eq_true rfl) (hR := ⟨⟨rfl, rfl⟩, Nat.le_of_ble_eq_true rfl, Nat.le_of_ble_eq_true rfl⟩) (hnc := ⟨Nat.zero_le _, Nat.zero_le _⟩) (fun r_1 y_1 h_1 => ?_)
  obtain ⟨e_1, ey_1⟩ := h_1
  obtain rfl := ey_1.symm
  refine rm_istore (ls' := [(0, .ref (ad 15 14 0)), (1, .ref (ad k 15 0)), (2, .int (nI (j))), (3, .int msk), (4, .int r_1)]) hc dX9_presses_5 (by decide) rfl ?_
  refine rm_bipush (v := 14) hc dX9_presses_7 (by decide) ?_
  refine rm_iconst (v := 4) hc dX9_presses_9 (by decide) ?_
  refine rm_iload_n hc dX9_presses_10 rfl rfl ?_
  refine rm_imul hc dX9_presses_11 (fun v_2 e_2 => ?_)
  obtain rfl : v_2 = (nI (4 * j)) := e_2.trans (nmul (m := 4) (n := j) (by omega))
  clear e_2
  refine rm_iadd hc dX9_presses_12 (fun v_3 e_3 => ?_)
  obtain rfl : v_3 = (nI (14 + 4 * j)) := e_3.trans (nadd (m := 14) (n := 4 * j) (by omega))
  clear e_3
  refine rm_istore (ls' := [(0, .ref (ad 15 14 0)), (1, .ref (ad k 15 0)), (2, .int (nI (j))), (3, .int msk), (4, .int r_1), (5, .int (nI (14 + 4 * j)))]) hc dX9_presses_13 (by decide) rfl ?_
  refine rm_aload_n hc dX9_presses_15 rfl rfl ?_
  refine rm_iload hc dX9_presses_16 rfl ?_
  refine rm_iconst (v := 2) hc dX9_presses_18 (by decide) ?_
  refine rm_iadd hc dX9_presses_19 (fun v_4 e_4 => ?_)
  obtain rfl : v_4 = (nI (16 + 4 * j)) := e_4.trans (nadd (m := 14 + 4 * j) (n := 2) (by omega))
  clear e_4
  refine rm_dup2 hc dX9_presses_20 rfl rfl ?_
  refine rm_iald (i := 16 + 4 * j) hc dX9_presses_21 (dm_15 (by omega)) rfl (by omega) (by decide) rfl (fun v_5 e_5 => ?_)
  refine rm_iconst (v := 1) hc dX9_presses_22 (by decide) ?_
  refine rm_isub hc dX9_presses_23 (fun v_6 e_6 => ?_)
  refine rm_iast (i := 16 + 4 * j) hc dX9_presses_24 (dm_15 (by omega)) rfl (by omega) (by decide) rfl (so_15 (by omega)) (rm_nm (fun x_7 ex_7 => ?_))
  refine rm_aload_n hc dX9_presses_25 rfl rfl ?_
  refine rm_iload hc dX9_presses_26 rfl ?_
  refine rm_iconst (v := 1) hc dX9_presses_28 (by decide) ?_
  refine rm_iadd hc dX9_presses_29 (fun v_8 e_8 => ?_)
  obtain rfl : v_8 = (nI (15 + 4 * j)) := e_8.trans (nadd (m := 14 + 4 * j) (n := 1) (by omega))
  clear e_8
  refine rm_aload_n hc dX9_presses_30 rfl rfl ?_
  refine rm_iload hc dX9_presses_31 rfl ?_
  refine rm_iconst (v := 1) hc dX9_presses_33 (by decide) ?_
  refine rm_iadd hc dX9_presses_34 (fun v_9 e_9 => ?_)
  obtain rfl : v_9 = (nI (15 + 4 * j)) := e_9.trans (nadd (m := 14 + 4 * j) (n := 1) (by omega))
  clear e_9
  refine rm_iald (i := 15 + 4 * j) hc dX9_presses_35 (dm_15 (by omega)) rfl (by omega) (by decide) rfl (fun v_10 e_10 => ?_)
  obtain rfl : v_10 = nI fb := by rw [e_10]; subst_vars; rw [up_n _ _ (by omega)]; exact hf5
  refine rm_iconst (v := 1) hc dX9_presses_36 (by decide) ?_
  refine rm_calliS (As := [.int (nI (fb)), .int 1]) (rest := [.int (nI (15 + 4 * j)), .ref (ad k 15 0)]) hc dX9_presses_37 (c_X9_ahead hI x_7 (a := fb) (b := 1) (by omega) (by omega)) ms_X9_60 (hn := rfl) (hst := rfl) (hw := Nat.le_of_ble_eq_true rfl) (hR := ⟨⟨rfl, rfl⟩, Nat.le_of_ble_eq_true rfl, Nat.le_of_ble_eq_true rfl⟩) (hnc := ⟨Nat.zero_le _, Nat.zero_le _⟩) (fun r_11 y_11 h_11 => ?_)
  obtain ⟨e_11, ey_11⟩ := h_11
  obtain rfl := ey_11.symm
  obtain ⟨n_11, hn_11⟩ : ∃ n_11 : Nat, n_11 = (fb + 1) % 10000 := ⟨_, rfl⟩
  have hl_11 : n_11 < 10000 := by omega
  obtain rfl : r_11 = nI n_11 := by rw [hn_11]; exact e_11
  refine rm_iast (i := 15 + 4 * j) hc dX9_presses_40 (dm_15 (by omega)) rfl (by omega) (by decide) rfl (so_15 (by omega)) (rm_nm (fun x_12 ex_12 => ?_))
  refine rm_aload_n hc dX9_presses_41 rfl rfl ?_
  refine rm_iload hc dX9_presses_42 rfl ?_
  refine rm_iconst (v := 3) hc dX9_presses_44 (by decide) ?_
  refine rm_iadd hc dX9_presses_45 (fun v_13 e_13 => ?_)
  obtain rfl : v_13 = (nI (17 + 4 * j)) := e_13.trans (nadd (m := 14 + 4 * j) (n := 3) (by omega))
  clear e_13
  refine rm_dup2 hc dX9_presses_46 rfl rfl ?_
  refine rm_iald (i := 17 + 4 * j) hc dX9_presses_47 (dm_15 (by omega)) rfl (by omega) (by decide) rfl (fun v_14 e_14 => ?_)
  refine rm_iconst (v := 1) hc dX9_presses_48 (by decide) ?_
  refine rm_iadd hc dX9_presses_49 (fun v_15 e_15 => ?_)
  refine rm_iast (i := 17 + 4 * j) hc dX9_presses_50 (dm_15 (by omega)) rfl (by omega) (by decide) rfl (so_15 (by omega)) (rm_nm (fun x_16 ex_16 => ?_))
  have hm0 : x_16 = up (up (up x k (16 + 4 * j) (x k (16 + 4 * j) - 1)) k (15 + 4 * j) (nI n_11)) k (17 + 4 * j) (x k (17 + 4 * j) + 1) := by subst_vars; rw [up_n _ _ (by omega), up_n _ _ (by omega)]
  refine rm_bipush (v := 7) hc dX9_presses_51 (by decide) ?_
  refine rm_istore (ls' := [(0, .ref (ad 15 14 0)), (1, .ref (ad k 15 0)), (2, .int (nI (j))), (3, .int msk), (4, .int r_1), (5, .int (nI (14 + 4 * j))), (6, .int 7)]) hc dX9_presses_53 (by decide) rfl ?_
  have key55 : ∀ (f : Nat) (i : Nat) (zm : Mem), i = f → i ≤ 7 → zm = shI x_16 k i → RM p l e rm_X9_presses s m args below meth c 7 (AA ad s.heap.size) (GG D cy ad zm) 0 0 (QQ (Qi D cy ad (fun r y => r = (prsS x k j msk mm).1 ∧ M7 (prsS x k j msk mm).2 y)) below args s ad) 55 [(0, .ref (ad 15 14 0)), (1, .ref (ad k 15 0)), (2, .int (nI (j))), (3, .int msk), (4, .int r_1), (5, .int (nI (14 + 4 * j))), (6, .int (nI (i)))] [] := by
    intro f
    induction f with
    | zero =>
      intro i zm hif h7 hz
      subst hif
      refine rm_iload hc dX9_presses_55 rfl ?_
      refine rm_if_le (tgt := 82) hc dX9_presses_57 (by decide) (fun _ => ?_) (fun h => absurd (by decide) h)
      refine rm_aload_n hc dX9_presses_82 rfl rfl ?_
      refine rm_bipush (v := 6) hc dX9_presses_83 (by decide) ?_
      refine rm_iload hc dX9_presses_85 rfl ?_
      refine rm_iast (i := 6) hc dX9_presses_87 (dm_15 (by omega)) rfl (by omega) (by decide) rfl (so_15 (by omega)) (rm_nm (fun x_18 ex_18 => ?_))
      refine rm_aload_n hc dX9_presses_88 rfl rfl ?_
      refine rm_iconst (v := 5) hc dX9_presses_89 (by decide) ?_
      refine rm_dup2 hc dX9_presses_90 rfl rfl ?_
      refine rm_iald (i := 5) hc dX9_presses_91 (dm_15 (by omega)) rfl (by omega) (by decide) rfl (fun v_19 e_19 => ?_)
      have hr5_19 : v_19 = nI nr := by rw [e_19, ex_18, up_n _ _ (by omega), hz]; subst_vars; unfold shI; rw [if_neg (by omega), up_n _ _ (by omega), up_n _ _ (by omega), up_n _ _ (by omega)]; exact hnr
      obtain rfl : v_19 = nI nr := hr5_19
      refine rm_aload_n hc dX9_presses_92 rfl rfl ?_
      refine rm_iconst (v := 5) hc dX9_presses_93 (by decide) ?_
      refine rm_iald (i := 5) hc dX9_presses_94 (dm_15 (by omega)) rfl (by omega) (by decide) rfl (fun v_20 e_20 => ?_)
      have hr5_20 : v_20 = nI nr := by rw [e_20, ex_18, up_n _ _ (by omega), hz]; subst_vars; unfold shI; rw [if_neg (by omega), up_n _ _ (by omega), up_n _ _ (by omega), up_n _ _ (by omega)]; exact hnr
      obtain rfl : v_20 = nI nr := hr5_20
      refine rm_bipush (v := 8) hc dX9_presses_95 (by decide) ?_
      rcases Nat.lt_or_ge nr 8 with z8 | z8
      · --
        refine rm_icmp_ge (tgt := 104) hc dX9_presses_97 (by decide) (fun h => absurd h (fun h2 => absurd ((nI_leI (a := 8) (b := nr) (by omega) (by omega)).mp h2) (by omega))) (fun _ => ?_)
        refine rm_iconst (v := 1) hc dX9_presses_100 (by decide) ?_
        refine rm_goto (tgt := 105) hc dX9_presses_101 (by decide) ?_
        refine rm_iadd hc dX9_presses_105 (fun v_22 e_22 => ?_)
        obtain rfl : v_22 = (nI (nr + 1)) := e_22.trans (nadd (m := nr) (n := 1) (by omega))
        clear e_22
        refine rm_iast (i := 5) hc dX9_presses_106 (dm_15 (by omega)) rfl (by omega) (by decide) rfl (so_15 (by omega)) (rm_nm (fun x_23 ex_23 => ?_))
        have hnx : nI n_11 = nx (x k (15 + 4 * j)) := by rw [hf5, nx_n hfb, hn_11]
        have hnum : r_1 = nxtN x k j := e_1
        have hmem : x_23 = recF (sndF x k j) k r_1 := prs_M hj hnx rfl rfl hnr hr8 rfl (by rw [ex_23, ex_18, hz, shI_e, hm0, if_pos z8])
        have hRS2 : RS (x_23 k) := by rw [hmem]; exact (hRS.sF hj).rec
        have hw2 : x_23 k 1 = nI mm := by rw [hmem]; exact recF_1.trans (sndF_1.trans hw)
        refine rm_aload_n hc dX9_presses_107 rfl rfl ?_
        refine rm_aload_n hc dX9_presses_108 rfl rfl ?_
        refine rm_iload_n hc dX9_presses_109 rfl rfl ?_
        refine rm_iload hc dX9_presses_110 rfl ?_
        refine rm_calliV (As := [.ref (ad k 15 0), .int msk, .int r_1]) (rest := []) hc dX9_presses_112 (c_X9_heard hI x_23 (k := k) (by omega) msk r_1 hRS2 mm (by omega) hw2) mv_X9_86 dm_14 rfl rfl (hn := rfl) (hst := rfl) (hw := Nat.le_of_ble_eq_true rfl) (hR := ⟨⟨rfl, rfl⟩, Nat.le_of_ble_eq_true rfl, Nat.le_of_ble_eq_true rfl⟩) (hnc := ⟨Nat.zero_le _, Nat.zero_le _⟩) (fun r_24 y_24 h_24 => ?_)
        obtain ⟨e_24, hM_24⟩ := h_24
        exact rm_iret hc dX9_presses_115 ⟨by rw [e_24, hmem, hnum]; rfl, by unfold prsS; rw [← hnum, ← hmem]; exact hM_24⟩
      · --
        refine rm_icmp_ge (tgt := 104) hc dX9_presses_97 (by decide) (fun _ => ?_) (fun h => absurd ((nI_leI (a := 8) (b := nr) (by omega) (by omega)).mpr (by omega)) h)
        refine rm_iconst (v := 0) hc dX9_presses_104 (by decide) ?_
        refine rm_iadd hc dX9_presses_105 (fun v_25 e_25 => ?_)
        obtain rfl : v_25 = (nI (nr)) := e_25.trans (nadd (m := nr) (n := 0) (by omega))
        clear e_25
        refine rm_iast (i := 5) hc dX9_presses_106 (dm_15 (by omega)) rfl (by omega) (by decide) rfl (so_15 (by omega)) (rm_nm (fun x_26 ex_26 => ?_))
        have hnx : nI n_11 = nx (x k (15 + 4 * j)) := by rw [hf5, nx_n hfb, hn_11]
        have hnum : r_1 = nxtN x k j := e_1
        have hmem : x_26 = recF (sndF x k j) k r_1 := prs_M hj hnx rfl rfl hnr hr8 rfl (by rw [ex_26, ex_18, hz, shI_e, hm0, if_neg (by omega)])
        have hRS2 : RS (x_26 k) := by rw [hmem]; exact (hRS.sF hj).rec
        have hw2 : x_26 k 1 = nI mm := by rw [hmem]; exact recF_1.trans (sndF_1.trans hw)
        refine rm_aload_n hc dX9_presses_107 rfl rfl ?_
        refine rm_aload_n hc dX9_presses_108 rfl rfl ?_
        refine rm_iload_n hc dX9_presses_109 rfl rfl ?_
        refine rm_iload hc dX9_presses_110 rfl ?_
        refine rm_calliV (As := [.ref (ad k 15 0), .int msk, .int r_1]) (rest := []) hc dX9_presses_112 (c_X9_heard hI x_26 (k := k) (by omega) msk r_1 hRS2 mm (by omega) hw2) mv_X9_86 dm_14 rfl rfl (hn := rfl) (hst := rfl) (hw := Nat.le_of_ble_eq_true rfl) (hR := ⟨⟨rfl, rfl⟩, Nat.le_of_ble_eq_true rfl, Nat.le_of_ble_eq_true rfl⟩) (hnc := ⟨Nat.zero_le _, Nat.zero_le _⟩) (fun r_27 y_27 h_27 => ?_)
        obtain ⟨e_27, hM_27⟩ := h_27
        exact rm_iret hc dX9_presses_115 ⟨by rw [e_27, hmem, hnum]; rfl, by unfold prsS; rw [← hnum, ← hmem]; exact hM_27⟩
    | succ f ih =>
      intro i zm hif h7 hz
      refine rm_iload hc dX9_presses_55 rfl ?_
      refine rm_if_le (tgt := 82) hc dX9_presses_57 (by decide) (fun h => absurd h (fun h2 => absurd ((nI_leI (a := i) (b := 0) (by omega) (by omega)).mp h2) (by omega))) (fun _ => ?_)
      refine rm_aload_n hc dX9_presses_60 rfl rfl ?_
      refine rm_bipush (v := 6) hc dX9_presses_61 (by decide) ?_
      refine rm_iload hc dX9_presses_63 rfl ?_
      refine rm_iadd hc dX9_presses_65 (fun v_29 e_29 => ?_)
      obtain rfl : v_29 = (nI (i + 6)) := e_29.trans (nadd (m := 6) (n := i) (by omega))
      clear e_29
      refine rm_aload_n hc dX9_presses_66 rfl rfl ?_
      refine rm_bipush (v := 6) hc dX9_presses_67 (by decide) ?_
      refine rm_iload hc dX9_presses_69 rfl ?_
      refine rm_iadd hc dX9_presses_71 (fun v_30 e_30 => ?_)
      obtain rfl : v_30 = (nI (i + 6)) := e_30.trans (nadd (m := 6) (n := i) (by omega))
      clear e_30
      refine rm_iconst (v := 1) hc dX9_presses_72 (by decide) ?_
      refine rm_isub hc dX9_presses_73 (fun v_31 e_31 => ?_)
      obtain rfl : v_31 = nI (i + 5) := e_31.trans (pk_sub (a := i + 6) (b := 1) (by omega))
      refine rm_iald (i := i + 5) hc dX9_presses_74 (dm_15 (by omega)) rfl (by omega) (by decide) rfl (fun v_32 e_32 => ?_)
      refine rm_iast (i := i + 6) hc dX9_presses_75 (dm_15 (by omega)) rfl (by omega) (by decide) rfl (so_15 (by omega)) (rm_nm (fun x_33 ex_33 => ?_))
      obtain ⟨v_34, e_34⟩ : ∃ v_34 : Int32, v_34 = (nI (i)) + Int32.ofInt (-1) := ⟨_, rfl⟩
      refine rm_iinc (v := v_34) (ls' := [(0, .ref (ad 15 14 0)), (1, .ref (ad k 15 0)), (2, .int (nI (j))), (3, .int msk), (4, .int r_1), (5, .int (nI (14 + 4 * j))), (6, .int v_34)]) hc dX9_presses_76 rfl e_34.symm (by decide) rfl ?_
      refine rm_goto (tgt := 55) hc dX9_presses_79 (by decide) ?_
      obtain rfl : v_34 = nI (i - 1) := e_34.trans (dec_n (by omega))
      exact ih (i - 1) _ (by omega) (by omega) (shI_st (by omega) (by omega) hz e_32 ex_33)
  exact key55 7 7 _ rfl (by omega) shI_0
