theorem fusK_b {x y : Mem} (h : y 10 = x 10) {d mm : Nat} : ∀ (f i : Nat), fusK y 10 d mm f i = fusK x 10 d mm f i
  | 0, _ => rfl
  | f + 1, i => by
    unfold fusK
    rw [hrR_blk h, h, fusK_b h f]
theorem munK_b {x y : Mem} (h : y 10 = x 10) {d mm : Nat} {sc : Int32} : ∀ (f : Nat) (c : Int32) (i : Nat), munK y 10 d sc mm f c i = munK x 10 d sc mm f c i
  | 0, _, _ => rfl
  | f + 1, c, i => by
    unfold munK
    rw [hrR_blk h, munK_b h f]
theorem opK_b {j mm : Nat} {msk : Int32} : ∀ (f : Nat) {z z' : Mem} (i : Nat), z' 11 = z 11 → opK j msk mm f z' i = opK j msk mm f z i
  | 0, _, _, _, _ => rfl
  | f + 1, z, z', i, h => by
    have hp := prs_blk (x := z) (y := z') (k := 11) (k2 := 11) (j := j) (mm := mm) (msk := msk) h
    unfold opK
    rw [h, hp.2, opK_b f (i + 1) hp.1]
theorem M11.c11 {x y : Mem} (h : M11 x y) : cpS y 11 0 10 0 96 11 = cpS x 11 0 10 0 96 11 := by
  funext n
  unfold cpS
  by_cases hn : n < 96
  · rw [if_pos (by omega), if_pos (by omega), h.blk (b := 10) (by omega) (by omega)]
  · rw [if_neg (by omega), if_neg (by omega)]
    exact h 11 n (Or.inr (by omega)) (fun q => absurd q.1 (by omega))
def opX (x : Mem) (j d mm : Nat) : Int32 := opK j (1 <<< (nI d &&& 31)) mm 50 (cpS x 11 0 10 0 96) 0
def muX (x : Mem) (j d mm : Nat) : Int32 := munK x 10 d (x 10 (14 + 4 * j)) mm 100 (x 10 (15 + 4 * j)) 0
theorem M11.opX {x y : Mem} (h : M11 x y) {j d mm : Nat} : opK j (1 <<< (nI d &&& 31)) mm 50 (cpS y 11 0 10 0 96) 0 = opX x j d mm := opK_b 50 0 h.c11
theorem M11.muX {x y : Mem} (h : M11 x y) {j d mm : Nat} : munK y 10 d (y 10 (14 + 4 * j)) mm 100 (y 10 (15 + 4 * j)) 0 = muX x j d mm := by
  have h0 := h.blk (b := 10) (by omega) (by omega)
  show munK y 10 d (y 10 (14 + 4 * j)) mm 100 (y 10 (15 + 4 * j)) 0 = munK x 10 d (x 10 (14 + 4 * j)) mm 100 (x 10 (15 + 4 * j)) 0
  rw [h0, munK_b h0]
def dorM (x : Mem) (d mm nr : Nat) : List Int32 := ((List.range 8).map fun q => ofD x d q) ++ (((List.range 16).map fun q => ofS x d (q / 4) (q % 4)) ++ (fusK x 10 d mm nr 0 :: (List.range 4).flatMap fun q => [opX x q d mm, muX x q d mm]))
theorem hsh_c {h : Int64} {v : Int32} {t : List Int32} : hsh h (v :: t) = hsh (31 * h + v.toInt64) t := rfl
theorem dorM_h {x : Mem} {h : Int64} {d mm nr : Nat} : hsh (31 * hsh (hsh h ((List.range 8).map fun q => ofD x d q)) ((List.range 16).map fun q => ofS x d (q / 4) (q % 4)) + (fusK x 10 d mm nr 0).toInt64) ((List.range 4).flatMap fun q => [opX x q d mm, muX x q d mm]) = hsh h (dorM x d mm nr) := by
  unfold dorM
  rw [hsh_app, hsh_app, hsh_c]
theorem hsh_2 {h : Int64} {a b : Int32} : 31 * (31 * h + a.toInt64) + b.toInt64 = hsh h [a, b] := rfl
def dm1 (x : Mem) : Int64 := hsh 3257 ((List.range 8).map fun q => cntM x q)
def dm2 (x : Mem) : Int64 := hsh (dm1 x) ((List.range 3).map fun q => x 10 q)
def dm3 (x : Mem) : Int64 := hsh (dm2 x) ((List.range 20).map fun q => ofF x (q / 5) (q % 5))
def dm4 (x : Mem) (mm nr : Nat) : Int64 := hsh (dm3 x) ((List.range 3).flatMap fun q => dorM x q mm nr)
def dm5 (x : Mem) (mm nr : Nat) : Int64 := hsh (dm4 x mm nr) ((List.range nr).map fun q => x 10 (q + 6))
def dm6 (x : Mem) (mm nr oa ow tl : Nat) : Int64 := 31 * (31 * (31 * dm5 x mm nr + (hrR x 10 0 10 7919 mm).toInt64) + (shrS oa ow).toInt64) + (nI tl).toInt64
def dgM (x : Mem) (mm nr oa ow tl : Nat) : Int64 := hsh (dm6 x mm nr oa ow tl) ((List.range tl).map fun q => x 13 q)
theorem c_X9_counted_n {l : Launch} {D : va_G} {cy : Nat → ClassId} {ad : Ads} (hI : IJ ad) (x : Mem)  {w : Nat} (hw : w < 8) : Cti l yX9_counted cX9_counted 2 (some .int) rm_X9_counted D cy ad [.ref (ad 15 14 0), .int (nI (w))] x (fun r y => r = cntM x w ∧ y = x) := by
  rcases (show w = 0 ∨ w = 1 ∨ w = 2 ∨ w = 3 ∨ w = 4 ∨ w = 5 ∨ w = 6 ∨ w = 7 by omega) with rfl | rfl | rfl | rfl | rfl | rfl | rfl | rfl
  · exact c_X9_counted hI x 
  · exact c_X9_counted_1 hI x 
  · exact c_X9_counted_2 hI x 
  · exact c_X9_counted_3 hI x 
  · exact c_X9_counted_4 hI x 
  · exact c_X9_counted_5 hI x 
  · exact c_X9_counted_6 hI x 
  · exact c_X9_counted_7 hI x 

theorem c_X9_ofFob_n {l : Launch} {D : va_G} {cy : Nat → ClassId} {ad : Ads} (hI : IJ ad) (x : Mem) {j : Nat} (hj : j < 4) (hRF : RF (x 10)) {w : Nat} (hw : w < 5) : Cti l yX9_ofFob cX9_ofFob 3 (some .int) rm_X9_ofFob D cy ad [.ref (ad 15 14 0), .int (nI (j)), .int (nI (w))] x (fun r y => r = ofF x j w ∧ y = x) := by
  rcases (show w = 0 ∨ w = 1 ∨ w = 2 ∨ w = 3 ∨ w = 4 by omega) with rfl | rfl | rfl | rfl | rfl
  · exact c_X9_ofFob hI x hj
  · exact c_X9_ofFob_1 hI x hj
  · exact c_X9_ofFob_2 hI x hj
  · exact c_X9_ofFob_3 hI x hj hRF
  · exact c_X9_ofFob_4 hI x hj

theorem c_X9_ofDoor_n {l : Launch} {D : va_G} {cy : Nat → ClassId} {ad : Ads} (hI : IJ ad) (x : Mem) {d : Nat} (hd3 : d < 3) {w : Nat} (hw : w < 8) : Cti l yX9_ofDoor cX9_ofDoor 3 (some .int) rm_X9_ofDoor D cy ad [.ref (ad 15 14 0), .int (nI (d)), .int (nI (w))] x (fun r y => r = ofD x d w ∧ y = x) := by
  rcases (show w = 0 ∨ w = 1 ∨ w = 2 ∨ w = 3 ∨ w = 4 ∨ w = 5 ∨ w = 6 ∨ w = 7 by omega) with rfl | rfl | rfl | rfl | rfl | rfl | rfl | rfl
  · exact c_X9_ofDoor hI x hd3
  · exact c_X9_ofDoor_1 hI x hd3
  · exact c_X9_ofDoor_2 hI x hd3
  · exact c_X9_ofDoor_3 hI x hd3
  · exact c_X9_ofDoor_4 hI x hd3
  · exact c_X9_ofDoor_5 hI x hd3
  · exact c_X9_ofDoor_6 hI x hd3
  · exact c_X9_ofDoor_7 hI x hd3

set_option maxHeartbeats 4000000 in
set_option maxRecDepth 100000 in
theorem c_X9_digest {l : Launch} {D : va_G} {cy : Nat → ClassId} {ad : Ads} (hI : IJ ad) (x : Mem) {nr oa ow tl : Nat} (hRS : RS (x 10)) (mm : Nat) (hmm : mm ≤ 500) (hw : x 10 1 = nI mm) (hRF : RF (x 10)) (hnr : x 10 5 = nI nr) (hr8 : nr ≤ 8) (hoa : ofDs x 4 = nI oa) (how : ofDs x 6 = nI ow) (hso : oa + ow < 2 ^ 20) (htl : x 15 1 = nI tl) (ht6 : tl ≤ 60) : Ctl l yX9_digest cX9_digest 5 (some .long) rm_X9_digest D cy ad [.ref (ad 15 14 0)] x (fun r y => r = dgM (T0 x) mm nr oa ow tl ∧ M11 (T0 x) y) := by
  refine rm_entry (Qc := Ql D cy ad (fun r y => r = dgM (T0 x) mm nr oa ow tl ∧ M11 (T0 x) y)) hI (by decide) (Nat.le_of_ble_eq_true rfl) ?_
  intro p e s m args below meth c hc
  show RM _ _ _ _ _ _ _ _ _ _ _ _ _ _ _ _ _ [(0, .ref (ad 15 14 0))] []
  refine rm_aload_n hc dX9_digest_0 rfl rfl ?_
  refine rm_iconst (v := 0) hc dX9_digest_1 (by decide) ?_
  refine rm_put hc dX9_digest_2 fl_X9_25 dm_14 rfl (Nat.le_of_ble_eq_true rfl) ft_9_6 rfl rfl so_14_6 (rm_nm (fun x_1 ex_1 => ?_))
  refine rm_ldc2 hc dX9_digest_5 kc_X9_179 ?_
  refine rm_lstore_n (ls' := [(0, .ref (ad 15 14 0)), (1, .long 3257)]) hc dX9_digest_8 rfl (by decide) rfl ?_
  have hx1 : x_1 = T0 x := ex_1
  have hRS1 : RS (x_1 10) := by rw [hx1, T0_10]; exact hRS
  have hRF1 : RF (x_1 10) := by rw [hx1, T0_10]; exact hRF
  have hw1 : x_1 10 1 = nI mm := by rw [hx1, T0_10]; exact hw
  have hnr1 : x_1 10 5 = nI nr := by rw [hx1, T0_10]; exact hnr
  have hoa1 : ofDs x_1 4 = nI oa := by rw [hx1, ofDs_b T0_10]; exact hoa
  have how1 : ofDs x_1 6 = nI ow := by rw [hx1, ofDs_b T0_10]; exact how
  have htl1 : x_1 15 1 = nI tl := by rw [hx1]; exact (up_n _ _ (by omega)).trans htl
  refine rm_iconst (v := 0) hc dX9_digest_9 (by decide) ?_
  refine rm_istore_n (ls' := [(0, .ref (ad 15 14 0)), (1, .long 3257), (3, .int 0)]) hc dX9_digest_10 rfl (by decide) rfl ?_
  refine rm_sub [0, 1, 3] rfl ?_
  have key11 : ∀ (f : Nat) (i1 : Nat) (zmi1 : Mem) (hv1 : Int64), i1 + f = 8 → M11 x_1 zmi1 → hv1 = hsh (3257) ((List.range i1).map fun q => cntM x_1 q) → RM p l e rm_X9_digest s m args below meth c 5 (AA ad s.heap.size) (GG D cy ad zmi1) 0 0 (QQ (Ql D cy ad (fun r y => r = dgM (T0 x) mm nr oa ow tl ∧ M11 (T0 x) y)) below args s ad) 11 [(0, .ref (ad 15 14 0)), (1, .long hv1), (3, .int (nI (i1)))] [] := by
    intro f
    induction f with
    | zero =>
      intro i1 zmi1 hv1 hifi1 hEi1 hhi1
      have hni1 : i1 = 8 := by omega
      have hdi1 : hv1 = hsh (3257) ((List.range 8).map fun q => cntM x_1 q) := by rw [hhi1, hni1]
      refine rm_iload_n hc dX9_digest_11 rfl rfl ?_
      refine rm_bipush (v := 8) hc dX9_digest_12 (by decide) ?_
      refine rm_icmp_ge (tgt := 36) hc dX9_digest_14 (by decide) (fun _ => ?_) (fun h => absurd ((nI_leI (a := 8) (b := i1) (by omega) (by omega)).mpr (by omega)) h)
      have hdm1 : hv1 = dm1 x_1 := hdi1
      refine rm_iconst (v := 0) hc dX9_digest_36 (by decide) ?_
      refine rm_istore_n (ls' := [(0, .ref (ad 15 14 0)), (1, .long hv1), (3, .int 0)]) hc dX9_digest_37 rfl (by decide) rfl ?_
      refine rm_sub [0, 1, 3] rfl ?_
      have key38 : ∀ (f : Nat) (i2 : Nat) (zmi2 : Mem) (hv2 : Int64), i2 + f = 3 → M11 x_1 zmi2 → hv2 = hsh (dm1 x_1) ((List.range i2).map fun q => x_1 10 q) → RM p l e rm_X9_digest s m args below meth c 5 (AA ad s.heap.size) (GG D cy ad zmi2) 0 0 (QQ (Ql D cy ad (fun r y => r = dgM (T0 x) mm nr oa ow tl ∧ M11 (T0 x) y)) below args s ad) 38 [(0, .ref (ad 15 14 0)), (1, .long hv2), (3, .int (nI (i2)))] [] := by
        intro f
        induction f with
        | zero =>
          intro i2 zmi2 hv2 hifi2 hEi2 hhi2
          have hni2 : i2 = 3 := by omega
          have hdi2 : hv2 = hsh (dm1 x_1) ((List.range 3).map fun q => x_1 10 q) := by rw [hhi2, hni2]
          refine rm_iload_n hc dX9_digest_38 rfl rfl ?_
          refine rm_iconst (v := 3) hc dX9_digest_39 (by decide) ?_
          refine rm_icmp_ge (tgt := 63) hc dX9_digest_40 (by decide) (fun _ => ?_) (fun h => absurd ((nI_leI (a := 3) (b := i2) (by omega) (by omega)).mpr (by omega)) h)
          have hdm2 : hv2 = dm2 x_1 := hdi2
          refine rm_iconst (v := 0) hc dX9_digest_63 (by decide) ?_
          refine rm_istore_n (ls' := [(0, .ref (ad 15 14 0)), (1, .long hv2), (3, .int 0)]) hc dX9_digest_64 rfl (by decide) rfl ?_
          refine rm_sub [0, 1, 3] rfl ?_
          have key65 : ∀ (f : Nat) (i3 : Nat) (zmi3 : Mem) (hv3 : Int64), i3 + f = 20 → M11 x_1 zmi3 → hv3 = hsh (dm2 x_1) ((List.range i3).map fun q => ofF x_1 (q / 5) (q % 5)) → RM p l e rm_X9_digest s m args below meth c 5 (AA ad s.heap.size) (GG D cy ad zmi3) 0 0 (QQ (Ql D cy ad (fun r y => r = dgM (T0 x) mm nr oa ow tl ∧ M11 (T0 x) y)) below args s ad) 65 [(0, .ref (ad 15 14 0)), (1, .long hv3), (3, .int (nI (i3)))] [] := by
            intro f
            induction f with
            | zero =>
              intro i3 zmi3 hv3 hifi3 hEi3 hhi3
              have hni3 : i3 = 20 := by omega
              have hdi3 : hv3 = hsh (dm2 x_1) ((List.range 20).map fun q => ofF x_1 (q / 5) (q % 5)) := by rw [hhi3, hni3]
              refine rm_iload_n hc dX9_digest_65 rfl rfl ?_
              refine rm_bipush (v := 20) hc dX9_digest_66 (by decide) ?_
              refine rm_icmp_ge (tgt := 95) hc dX9_digest_68 (by decide) (fun _ => ?_) (fun h => absurd ((nI_leI (a := 20) (b := i3) (by omega) (by omega)).mpr (by omega)) h)
              have hdm3 : hv3 = dm3 x_1 := hdi3
              refine rm_iconst (v := 0) hc dX9_digest_95 (by decide) ?_
              refine rm_istore_n (ls' := [(0, .ref (ad 15 14 0)), (1, .long hv3), (3, .int 0)]) hc dX9_digest_96 rfl (by decide) rfl ?_
              refine rm_sub [0, 1, 3] rfl ?_
              have key97 : ∀ (f : Nat) (d4 : Nat) (zmd4 : Mem) (hv4 : Int64), d4 + f = 3 → M11 x_1 zmd4 → hv4 = hsh (dm3 x_1) ((List.range d4).flatMap fun q => dorM x_1 q mm nr) → RM p l e rm_X9_digest s m args below meth c 5 (AA ad s.heap.size) (GG D cy ad zmd4) 0 0 (QQ (Ql D cy ad (fun r y => r = dgM (T0 x) mm nr oa ow tl ∧ M11 (T0 x) y)) below args s ad) 97 [(0, .ref (ad 15 14 0)), (1, .long hv4), (3, .int (nI (d4)))] [] := by
                intro f
                induction f with
                | zero =>
                  intro d4 zmd4 hv4 hifd4 hEd4 hhd4
                  have hnd4 : d4 = 3 := by omega
                  have hdd4 : hv4 = hsh (dm3 x_1) ((List.range 3).flatMap fun q => dorM x_1 q mm nr) := by rw [hhd4, hnd4]
                  refine rm_iload_n hc dX9_digest_97 rfl rfl ?_
                  refine rm_iconst (v := 3) hc dX9_digest_98 (by decide) ?_
                  refine rm_icmp_ge (tgt := 232) hc dX9_digest_99 (by decide) (fun _ => ?_) (fun h => absurd ((nI_leI (a := 3) (b := d4) (by omega) (by omega)).mpr (by omega)) h)
                  have hdm4 : hv4 = dm4 x_1 mm nr := hdd4
                  refine rm_iconst (v := 0) hc dX9_digest_232 (by decide) ?_
                  refine rm_istore_n (ls' := [(0, .ref (ad 15 14 0)), (1, .long hv4), (3, .int 0)]) hc dX9_digest_233 rfl (by decide) rfl ?_
                  refine rm_sub [0, 1, 3] rfl ?_
                  have key234 : ∀ (f : Nat) (i8 : Nat) (zmi8 : Mem) (hv8 : Int64), i8 + f = nr → M11 x_1 zmi8 → hv8 = hsh (dm4 x_1 mm nr) ((List.range i8).map fun q => x_1 10 (q + 6)) → RM p l e rm_X9_digest s m args below meth c 5 (AA ad s.heap.size) (GG D cy ad zmi8) 0 0 (QQ (Ql D cy ad (fun r y => r = dgM (T0 x) mm nr oa ow tl ∧ M11 (T0 x) y)) below args s ad) 234 [(0, .ref (ad 15 14 0)), (1, .long hv8), (3, .int (nI (i8)))] [] := by
                    intro f
                    induction f with
                    | zero =>
                      intro i8 zmi8 hv8 hifi8 hEi8 hhi8
                      have hni8 : i8 = nr := by omega
                      have hdi8 : hv8 = hsh (dm4 x_1 mm nr) ((List.range nr).map fun q => x_1 10 (q + 6)) := by rw [hhi8, hni8]
                      refine rm_iload_n hc dX9_digest_234 rfl rfl ?_
                      refine rm_aload_n hc dX9_digest_235 rfl rfl ?_
                      refine rm_get hc dX9_digest_236 fl_X9_7 dm_14 rfl rfl ?_
                      refine rm_iconst (v := 5) hc dX9_digest_239 (by decide) ?_
                      refine rm_iald (i := 5) hc dX9_digest_240 (dm_15 (by omega)) rfl (by omega) (by decide) rfl (fun v_6 e_6 => ?_)
                      obtain rfl : v_6 = nI nr := by rw [e_6, hEi8.blk (b := 10) (by omega) (by omega)]; exact hnr1
                      refine rm_icmp_ge (tgt := 267) hc dX9_digest_241 (by decide) (fun _ => ?_) (fun h => absurd ((nI_leI (a := nr) (b := i8) (by omega) (by omega)).mpr (by omega)) h)
                      have hdm5 : hv8 = dm5 x_1 mm nr := hdi8
                      refine rm_ldc2 hc dX9_digest_267 kc_X9_181 ?_
                      refine rm_lload_n hc dX9_digest_270 rfl rfl ?_
                      refine rm_lmul hc dX9_digest_271 (fun v_8 e_8 => ?_)
                      refine rm_aload_n hc dX9_digest_272 rfl rfl ?_
                      refine rm_aload_n hc dX9_digest_273 rfl rfl ?_
                      refine rm_get hc dX9_digest_274 fl_X9_7 dm_14 rfl rfl ?_
                      refine rm_iconst (v := 0) hc dX9_digest_277 (by decide) ?_
                      refine rm_sipush (v := 7919) hc dX9_digest_278 (by decide) ?_
                      refine rm_calliV (As := [.ref (ad 10 15 0), .int 0, .int 7919]) (rest := [.long v_8]) hc dX9_digest_281 (c_X9_would hI zmi8 (k := 10) (d := 0) (by omega) (by omega) 7919 (by rw [hEi8.blk (b := 10) (by omega) (by omega)]; exact hRS1) mm (by omega) (by rw [hEi8.blk (b := 10) (by omega) (by omega)]; exact hw1)) mv_X9_74 dm_14 rfl rfl (hn := rfl) (hst := rfl) (hw := Nat.le_of_ble_eq_true rfl) (hR := ⟨⟨rfl, rfl⟩, Nat.le_of_ble_eq_true rfl, Nat.le_of_ble_eq_true rfl⟩) (hnc := ⟨Nat.zero_le _, Nat.zero_le _⟩) (fun r_9 y_9 h_9 => ?_)
                      obtain ⟨e_9, ey_9, -⟩ := h_9
                      have hE_9 : M11 x_1 y_9 := hEi8.tr ey_9.m11
                      rw [hrR_blk (hEi8.blk (b := 10) (by omega) (by omega))] at e_9
                      refine rm_i2l hc dX9_digest_284 (fun v_10 e_10 => ?_)
                      refine rm_ladd hc dX9_digest_285 (fun v_11 e_11 => ?_)
                      refine rm_lstore_n (ls' := [(0, .ref (ad 15 14 0)), (1, .long v_11), (3, .int (nI (i8)))]) hc dX9_digest_286 rfl (by decide) rfl ?_
                      refine rm_ldc2 hc dX9_digest_287 kc_X9_181 ?_
                      refine rm_ldc2 hc dX9_digest_290 kc_X9_181 ?_
                      refine rm_lload_n hc dX9_digest_293 rfl rfl ?_
                      refine rm_lmul hc dX9_digest_294 (fun v_12 e_12 => ?_)
                      refine rm_aload_n hc dX9_digest_295 rfl rfl ?_
                      refine rm_calldV (As := []) (rest := [.long v_12, .long 31]) hc dX9_digest_296 (c_X9_share hI y_9 (oa := oa) (ow := ow) ((ofDs_b (hE_9.blk (b := 10) (by omega) (by omega))).trans hoa1) ((ofDs_b (hE_9.blk (b := 10) (by omega) (by omega))).trans how1) hso) mv_X9_175 dm_14 rfl rfl (hn := rfl) (hst := rfl) (hw := Nat.le_of_ble_eq_true rfl) (hR := ⟨⟨rfl, rfl⟩, Nat.le_of_ble_eq_true rfl, Nat.le_of_ble_eq_true rfl⟩) (hnc := ⟨Nat.zero_le _, Nat.zero_le _⟩) (fun r_13 y_13 h_13 => ?_)
                      obtain ⟨e_13, ey_13⟩ := h_13
                      obtain rfl := ey_13.symm
                      obtain rfl : r_13 = shrS oa ow := e_13
                      refine rm_calllS (As := [.double (shrS oa ow)]) (rest := [.long v_12, .long 31]) hc dX9_digest_299 (c_d2lb hI y_9 (shr_ok hso)) ms_X9_183 (hn := rfl) (hst := rfl) (hw := Nat.le_of_ble_eq_true rfl) (hR := ⟨⟨rfl, rfl⟩, Nat.le_of_ble_eq_true rfl, Nat.le_of_ble_eq_true rfl⟩) (hnc := ⟨Nat.zero_le _, Nat.zero_le _⟩) (fun r_14 y_14 h_14 => ?_)
                      obtain ⟨e_14, ey_14⟩ := h_14
                      obtain rfl := ey_14.symm
                      refine rm_ladd hc dX9_digest_302 (fun v_15 e_15 => ?_)
                      refine rm_lmul hc dX9_digest_303 (fun v_16 e_16 => ?_)
                      refine rm_aload_n hc dX9_digest_304 rfl rfl ?_
                      refine rm_geti hc dX9_digest_305 fl_X9_114 dm_14 rfl rfl (fun v_17 e_17 => ?_)
                      obtain rfl : v_17 = nI tl := e_17.trans ((hE_9 15 1 (Or.inl (by omega)) (by omega)).trans htl1)
                      refine rm_i2l hc dX9_digest_308 (fun v_18 e_18 => ?_)
                      refine rm_ladd hc dX9_digest_309 (fun v_19 e_19 => ?_)
                      refine rm_lstore_n (ls' := [(0, .ref (ad 15 14 0)), (1, .long v_19), (3, .int (nI (i8)))]) hc dX9_digest_310 rfl (by decide) rfl ?_
                      have hdm6 : v_19 = dm6 x_1 mm nr oa ow tl := by unfold dm6; rw [← hdm5, e_19, e_16, e_15, e_12, e_11, e_8, e_10, e_18, e_9, e_14]
                      refine rm_iconst (v := 0) hc dX9_digest_311 (by decide) ?_
                      refine rm_istore_n (ls' := [(0, .ref (ad 15 14 0)), (1, .long v_19), (3, .int 0)]) hc dX9_digest_312 rfl (by decide) rfl ?_
                      refine rm_sub [0, 1, 3] rfl ?_
                      have key313 : ∀ (f : Nat) (i9 : Nat) (zmi9 : Mem) (hv9 : Int64), i9 + f = tl → M11 x_1 zmi9 → hv9 = hsh (dm6 x_1 mm nr oa ow tl) ((List.range i9).map fun q => x_1 13 q) → RM p l e rm_X9_digest s m args below meth c 5 (AA ad s.heap.size) (GG D cy ad zmi9) 0 0 (QQ (Ql D cy ad (fun r y => r = dgM (T0 x) mm nr oa ow tl ∧ M11 (T0 x) y)) below args s ad) 313 [(0, .ref (ad 15 14 0)), (1, .long hv9), (3, .int (nI (i9)))] [] := by
                        intro f
                        induction f with
                        | zero =>
                          intro i9 zmi9 hv9 hifi9 hEi9 hhi9
                          have hni9 : i9 = tl := by omega
                          have hdi9 : hv9 = hsh (dm6 x_1 mm nr oa ow tl) ((List.range tl).map fun q => x_1 13 q) := by rw [hhi9, hni9]
                          refine rm_iload_n hc dX9_digest_313 rfl rfl ?_
                          refine rm_aload_n hc dX9_digest_314 rfl rfl ?_
                          refine rm_geti hc dX9_digest_315 fl_X9_114 dm_14 rfl rfl (fun v_20 e_20 => ?_)
                          obtain rfl : v_20 = nI tl := e_20.trans ((hEi9 15 1 (Or.inl (by omega)) (by omega)).trans htl1)
                          refine rm_icmp_ge (tgt := 341) hc dX9_digest_318 (by decide) (fun _ => ?_) (fun h => absurd ((nI_leI (a := tl) (b := i9) (by omega) (by omega)).mpr (by omega)) h)
                          refine rm_lload_n hc dX9_digest_341 rfl rfl ?_
                          exact rm_lret hc dX9_digest_342 ⟨by rw [← hx1]; exact hdi9, by rw [← hx1]; exact hEi9⟩
                        | succ f ih =>
                          intro i9 zmi9 hv9 hifi9 hEi9 hhi9
                          refine rm_iload_n hc dX9_digest_313 rfl rfl ?_
                          refine rm_aload_n hc dX9_digest_314 rfl rfl ?_
                          refine rm_geti hc dX9_digest_315 fl_X9_114 dm_14 rfl rfl (fun v_22 e_22 => ?_)
                          obtain rfl : v_22 = nI tl := e_22.trans ((hEi9 15 1 (Or.inl (by omega)) (by omega)).trans htl1)
                          refine rm_icmp_ge (tgt := 341) hc dX9_digest_318 (by decide) (fun h => absurd h (fun h2 => absurd ((nI_leI (a := tl) (b := i9) (by omega) (by omega)).mp h2) (by omega))) (fun _ => ?_)
                          refine rm_ldc2 hc dX9_digest_321 kc_X9_181 ?_
                          refine rm_lload_n hc dX9_digest_324 rfl rfl ?_
                          refine rm_lmul hc dX9_digest_325 (fun v_24 e_24 => ?_)
                          refine rm_aload_n hc dX9_digest_326 rfl rfl ?_
                          refine rm_get hc dX9_digest_327 fl_X9_19 dm_14 rfl rfl ?_
                          refine rm_iload_n hc dX9_digest_330 rfl rfl ?_
                          refine rm_iald (i := i9) hc dX9_digest_331 dm_17 rfl (by omega) (by decide) rfl (fun v_25 e_25 => ?_)
                          have ev_25 : v_25 = x_1 13 i9 := by rw [e_25, hEi9.blk (b := 13) (by omega) (by omega)]
                          refine rm_i2l hc dX9_digest_332 (fun v_26 e_26 => ?_)
                          refine rm_ladd hc dX9_digest_333 (fun v_27 e_27 => ?_)
                          refine rm_lstore_n (ls' := [(0, .ref (ad 15 14 0)), (1, .long v_27), (3, .int (nI (i9)))]) hc dX9_digest_334 rfl (by decide) rfl ?_
                          refine rm_iinc (v := (nI (i9 + 1))) (ls' := [(0, .ref (ad 15 14 0)), (1, .long v_27), (3, .int (nI (i9 + 1)))]) hc dX9_digest_335 rfl (nIj (by omega)) (by decide) rfl ?_
                          refine rm_goto (tgt := 313) hc dX9_digest_338 (by decide) ?_
                          refine rm_sub [0, 1, 3] rfl ?_
                          exact ih (i9 + 1) _ _ (by omega) hEi9 (by rw [hsh_range, ← hhi9, e_27, e_24, e_26, ev_25])
                      exact key313 tl 0 _ _ (by omega) hE_9 (hdm6.trans hsh_m0)
                    | succ f ih =>
                      intro i8 zmi8 hv8 hifi8 hEi8 hhi8
                      refine rm_iload_n hc dX9_digest_234 rfl rfl ?_
                      refine rm_aload_n hc dX9_digest_235 rfl rfl ?_
                      refine rm_get hc dX9_digest_236 fl_X9_7 dm_14 rfl rfl ?_
                      refine rm_iconst (v := 5) hc dX9_digest_239 (by decide) ?_
                      refine rm_iald (i := 5) hc dX9_digest_240 (dm_15 (by omega)) rfl (by omega) (by decide) rfl (fun v_28 e_28 => ?_)
                      obtain rfl : v_28 = nI nr := by rw [e_28, hEi8.blk (b := 10) (by omega) (by omega)]; exact hnr1
                      refine rm_icmp_ge (tgt := 267) hc dX9_digest_241 (by decide) (fun h => absurd h (fun h2 => absurd ((nI_leI (a := nr) (b := i8) (by omega) (by omega)).mp h2) (by omega))) (fun _ => ?_)
                      refine rm_ldc2 hc dX9_digest_244 kc_X9_181 ?_
                      refine rm_lload_n hc dX9_digest_247 rfl rfl ?_
                      refine rm_lmul hc dX9_digest_248 (fun v_30 e_30 => ?_)
                      refine rm_aload_n hc dX9_digest_249 rfl rfl ?_
                      refine rm_get hc dX9_digest_250 fl_X9_7 dm_14 rfl rfl ?_
                      refine rm_bipush (v := 6) hc dX9_digest_253 (by decide) ?_
                      refine rm_iload_n hc dX9_digest_255 rfl rfl ?_
                      refine rm_iadd hc dX9_digest_256 (fun v_31 e_31 => ?_)
                      obtain rfl : v_31 = (nI (i8 + 6)) := e_31.trans (nadd (m := 6) (n := i8) (by omega))
                      clear e_31
                      refine rm_iald (i := i8 + 6) hc dX9_digest_257 (dm_15 (by omega)) rfl (by omega) (by decide) rfl (fun v_32 e_32 => ?_)
                      have ev_32 : v_32 = x_1 10 (i8 + 6) := by rw [e_32, hEi8.blk (b := 10) (by omega) (by omega)]
                      refine rm_i2l hc dX9_digest_258 (fun v_33 e_33 => ?_)
                      refine rm_ladd hc dX9_digest_259 (fun v_34 e_34 => ?_)
                      refine rm_lstore_n (ls' := [(0, .ref (ad 15 14 0)), (1, .long v_34), (3, .int (nI (i8)))]) hc dX9_digest_260 rfl (by decide) rfl ?_
                      refine rm_iinc (v := (nI (i8 + 1))) (ls' := [(0, .ref (ad 15 14 0)), (1, .long v_34), (3, .int (nI (i8 + 1)))]) hc dX9_digest_261 rfl (nIj (by omega)) (by decide) rfl ?_
                      refine rm_goto (tgt := 234) hc dX9_digest_264 (by decide) ?_
                      refine rm_sub [0, 1, 3] rfl ?_
                      exact ih (i8 + 1) _ _ (by omega) hEi8 (by rw [hsh_range, ← hhi8, e_34, e_30, e_33, ev_32])
                  exact key234 nr 0 _ _ (by omega) hEd4 (hdm4.trans hsh_m0)
                | succ f ih =>
                  intro d4 zmd4 hv4 hifd4 hEd4 hhd4
                  refine rm_iload_n hc dX9_digest_97 rfl rfl ?_
                  refine rm_iconst (v := 3) hc dX9_digest_98 (by decide) ?_
                  refine rm_icmp_ge (tgt := 232) hc dX9_digest_99 (by decide) (fun h => absurd h (fun h2 => absurd ((nI_leI (a := 3) (b := d4) (by omega) (by omega)).mp h2) (by omega))) (fun _ => ?_)
                  refine rm_iconst (v := 0) hc dX9_digest_102 (by decide) ?_
                  refine rm_istore (ls' := [(0, .ref (ad 15 14 0)), (1, .long hv4), (3, .int (nI (d4))), (4, .int 0)]) hc dX9_digest_103 (by decide) rfl ?_
                  refine rm_sub [0, 1, 3, 4] rfl ?_
                  have key105 : ∀ (f : Nat) (w5 : Nat) (zmw5 : Mem) (hv5 : Int64), w5 + f = 8 → M11 x_1 zmw5 → hv5 = hsh (hv4) ((List.range w5).map fun q => ofD x_1 d4 q) → RM p l e rm_X9_digest s m args below meth c 5 (AA ad s.heap.size) (GG D cy ad zmw5) 0 0 (QQ (Ql D cy ad (fun r y => r = dgM (T0 x) mm nr oa ow tl ∧ M11 (T0 x) y)) below args s ad) 105 [(0, .ref (ad 15 14 0)), (1, .long hv5), (3, .int (nI (d4))), (4, .int (nI (w5)))] [] := by
                    intro f
                    induction f with
                    | zero =>
                      intro w5 zmw5 hv5 hifw5 hEw5 hhw5
                      have hnw5 : w5 = 8 := by omega
                      have hdw5 : hv5 = hsh (hv4) ((List.range 8).map fun q => ofD x_1 d4 q) := by rw [hhw5, hnw5]
                      refine rm_iload hc dX9_digest_105 rfl ?_
                      refine rm_bipush (v := 8) hc dX9_digest_107 (by decide) ?_
                      refine rm_icmp_ge (tgt := 133) hc dX9_digest_109 (by decide) (fun _ => ?_) (fun h => absurd ((nI_leI (a := 8) (b := w5) (by omega) (by omega)).mpr (by omega)) h)
                      refine rm_iconst (v := 0) hc dX9_digest_133 (by decide) ?_
                      refine rm_istore (ls' := [(0, .ref (ad 15 14 0)), (1, .long hv5), (3, .int (nI (d4))), (4, .int 0)]) hc dX9_digest_134 (by decide) rfl ?_
                      refine rm_sub [0, 1, 3, 4] rfl ?_
                      have key136 : ∀ (f : Nat) (k6 : Nat) (zmk6 : Mem) (hv6 : Int64), k6 + f = 16 → M11 x_1 zmk6 → hv6 = hsh (hv5) ((List.range k6).map fun q => ofS x_1 d4 (q / 4) (q % 4)) → RM p l e rm_X9_digest s m args below meth c 5 (AA ad s.heap.size) (GG D cy ad zmk6) 0 0 (QQ (Ql D cy ad (fun r y => r = dgM (T0 x) mm nr oa ow tl ∧ M11 (T0 x) y)) below args s ad) 136 [(0, .ref (ad 15 14 0)), (1, .long hv6), (3, .int (nI (d4))), (4, .int (nI (k6)))] [] := by
                        intro f
                        induction f with
                        | zero =>
                          intro k6 zmk6 hv6 hifk6 hEk6 hhk6
                          have hnk6 : k6 = 16 := by omega
                          have hdk6 : hv6 = hsh (hv5) ((List.range 16).map fun q => ofS x_1 d4 (q / 4) (q % 4)) := by rw [hhk6, hnk6]
                          refine rm_iload hc dX9_digest_136 rfl ?_
                          refine rm_bipush (v := 16) hc dX9_digest_138 (by decide) ?_
                          refine rm_icmp_ge (tgt := 170) hc dX9_digest_140 (by decide) (fun _ => ?_) (fun h => absurd ((nI_leI (a := 16) (b := k6) (by omega) (by omega)).mpr (by omega)) h)
                          refine rm_ldc2 hc dX9_digest_170 kc_X9_181 ?_
                          refine rm_lload_n hc dX9_digest_173 rfl rfl ?_
                          refine rm_lmul hc dX9_digest_174 (fun v_38 e_38 => ?_)
                          refine rm_aload_n hc dX9_digest_175 rfl rfl ?_
                          refine rm_iload_n hc dX9_digest_176 rfl rfl ?_
                          refine rm_calliV (As := [.int (nI (d4))]) (rest := [.long v_38]) hc dX9_digest_177 (c_X9_first hI zmk6 (d := d4) (nr := nr) (by omega) (by rw [hEk6.blk (b := 10) (by omega) (by omega)]; exact hRS1) mm (by omega) (by rw [hEk6.blk (b := 10) (by omega) (by omega)]; exact hw1) (by rw [hEk6.blk (b := 10) (by omega) (by omega)]; exact hnr1) (by omega)) mv_X9_172 dm_14 rfl rfl (hn := rfl) (hst := rfl) (hw := Nat.le_of_ble_eq_true rfl) (hR := ⟨⟨rfl, rfl⟩, Nat.le_of_ble_eq_true rfl, Nat.le_of_ble_eq_true rfl⟩) (hnc := ⟨Nat.zero_le _, Nat.zero_le _⟩) (fun r_39 y_39 h_39 => ?_)
                          obtain ⟨e_39, ey_39⟩ := h_39
                          have hE_39 : M11 x_1 y_39 := hEk6.tr ey_39.m11
                          rw [fusK_b (hEk6.blk (b := 10) (by omega) (by omega))] at e_39
                          refine rm_i2l hc dX9_digest_180 (fun v_40 e_40 => ?_)
                          refine rm_ladd hc dX9_digest_181 (fun v_41 e_41 => ?_)
                          refine rm_lstore_n (ls' := [(0, .ref (ad 15 14 0)), (1, .long v_41), (3, .int (nI (d4))), (4, .int (nI (k6)))]) hc dX9_digest_182 rfl (by decide) rfl ?_
                          have hfi : v_41 = 31 * hsh (hsh hv4 ((List.range 8).map fun q => ofD x_1 d4 q)) ((List.range 16).map fun q => ofS x_1 d4 (q / 4) (q % 4)) + (fusK x_1 10 d4 mm nr 0).toInt64 := by rw [e_41, e_38, e_40, e_39, hdk6, hdw5]
                          refine rm_iconst (v := 0) hc dX9_digest_183 (by decide) ?_
                          refine rm_istore (ls' := [(0, .ref (ad 15 14 0)), (1, .long v_41), (3, .int (nI (d4))), (4, .int 0)]) hc dX9_digest_184 (by decide) rfl ?_
                          refine rm_sub [0, 1, 3, 4] rfl ?_
                          have key186 : ∀ (f : Nat) (f7 : Nat) (zmf7 : Mem) (hv7 : Int64), f7 + f = 4 → M11 x_1 zmf7 → hv7 = hsh (v_41) ((List.range f7).flatMap fun q => [opX x_1 q d4 mm, muX x_1 q d4 mm]) → RM p l e rm_X9_digest s m args below meth c 5 (AA ad s.heap.size) (GG D cy ad zmf7) 0 0 (QQ (Ql D cy ad (fun r y => r = dgM (T0 x) mm nr oa ow tl ∧ M11 (T0 x) y)) below args s ad) 186 [(0, .ref (ad 15 14 0)), (1, .long hv7), (3, .int (nI (d4))), (4, .int (nI (f7)))] [] := by
                            intro f
                            induction f with
                            | zero =>
                              intro f7 zmf7 hv7 hiff7 hEf7 hhf7
                              have hnf7 : f7 = 4 := by omega
                              have hdf7 : hv7 = hsh (v_41) ((List.range 4).flatMap fun q => [opX x_1 q d4 mm, muX x_1 q d4 mm]) := by rw [hhf7, hnf7]
                              refine rm_iload hc dX9_digest_186 rfl ?_
                              refine rm_iconst (v := 4) hc dX9_digest_188 (by decide) ?_
                              refine rm_icmp_ge (tgt := 226) hc dX9_digest_189 (by decide) (fun _ => ?_) (fun h => absurd ((nI_leI (a := 4) (b := f7) (by omega) (by omega)).mpr (by omega)) h)
                              refine rm_sub [0, 1, 3] rfl ?_
                              refine rm_iinc (v := (nI (d4 + 1))) (ls' := [(0, .ref (ad 15 14 0)), (1, .long hv7), (3, .int (nI (d4 + 1)))]) hc dX9_digest_226 rfl (nIj (by omega)) (by decide) rfl ?_
                              refine rm_goto (tgt := 97) hc dX9_digest_229 (by decide) ?_
                              refine rm_sub [0, 1, 3] rfl ?_
                              exact ih (d4 + 1) _ _ (by omega) hEf7 (by rw [hsh_flat, ← hhd4]; rw [hdf7, hfi]; exact dorM_h)
                            | succ f ih =>
                              intro f7 zmf7 hv7 hiff7 hEf7 hhf7
                              refine rm_iload hc dX9_digest_186 rfl ?_
                              refine rm_iconst (v := 4) hc dX9_digest_188 (by decide) ?_
                              refine rm_icmp_ge (tgt := 226) hc dX9_digest_189 (by decide) (fun h => absurd h (fun h2 => absurd ((nI_leI (a := 4) (b := f7) (by omega) (by omega)).mp h2) (by omega))) (fun _ => ?_)
                              refine rm_ldc2 hc dX9_digest_192 kc_X9_181 ?_
                              refine rm_ldc2 hc dX9_digest_195 kc_X9_181 ?_
                              refine rm_lload_n hc dX9_digest_198 rfl rfl ?_
                              refine rm_lmul hc dX9_digest_199 (fun v_44 e_44 => ?_)
                              refine rm_aload_n hc dX9_digest_200 rfl rfl ?_
                              refine rm_iload hc dX9_digest_201 rfl ?_
                              refine rm_iload_n hc dX9_digest_203 rfl rfl ?_
                              refine rm_calliV (As := [.int (nI (f7)), .int (nI (d4))]) (rest := [.long v_44, .long 31]) hc dX9_digest_204 (c_X9_opens hI zmf7 (j := f7) (d := d4) (nr := nr) (by omega) (by omega) (by rw [hEf7.blk (b := 10) (by omega) (by omega)]; exact hRS1) mm (by omega) (by rw [hEf7.blk (b := 10) (by omega) (by omega)]; exact hw1) (by rw [hEf7.blk (b := 10) (by omega) (by omega)]; exact hRF1) (by rw [hEf7.blk (b := 10) (by omega) (by omega)]; exact hnr1) (by omega)) mv_X9_166 dm_14 rfl rfl (hn := rfl) (hst := rfl) (hw := Nat.le_of_ble_eq_true rfl) (hR := ⟨⟨rfl, rfl⟩, Nat.le_of_ble_eq_true rfl, Nat.le_of_ble_eq_true rfl⟩) (hnc := ⟨Nat.zero_le _, Nat.zero_le _⟩) (fun r_45 y_45 h_45 => ?_)
                              obtain ⟨e_45, ey_45⟩ := h_45
                              have hE_45 : M11 x_1 y_45 := hEf7.tr ey_45
                              rw [hEf7.opX] at e_45
                              refine rm_i2l hc dX9_digest_207 (fun v_46 e_46 => ?_)
                              refine rm_ladd hc dX9_digest_208 (fun v_47 e_47 => ?_)
                              refine rm_lmul hc dX9_digest_209 (fun v_48 e_48 => ?_)
                              refine rm_aload_n hc dX9_digest_210 rfl rfl ?_
                              refine rm_iload hc dX9_digest_211 rfl ?_
                              refine rm_iload_n hc dX9_digest_213 rfl rfl ?_
                              refine rm_calliV (As := [.int (nI (f7)), .int (nI (d4))]) (rest := [.long v_48]) hc dX9_digest_214 (c_X9_misses hI y_45 (j := f7) (d := d4) (by omega) (by omega) (by rw [hE_45.blk (b := 10) (by omega) (by omega)]; exact hRS1) mm (by omega) (by rw [hE_45.blk (b := 10) (by omega) (by omega)]; exact hw1) (by rw [hE_45.blk (b := 10) (by omega) (by omega)]; exact hRF1)) mv_X9_169 dm_14 rfl rfl (hn := rfl) (hst := rfl) (hw := Nat.le_of_ble_eq_true rfl) (hR := ⟨⟨rfl, rfl⟩, Nat.le_of_ble_eq_true rfl, Nat.le_of_ble_eq_true rfl⟩) (hnc := ⟨Nat.zero_le _, Nat.zero_le _⟩) (fun r_49 y_49 h_49 => ?_)
                              obtain ⟨e_49, ey_49⟩ := h_49
                              have hE_49 : M11 x_1 y_49 := hE_45.tr ey_49.m11
                              rw [hE_45.muX] at e_49
                              refine rm_i2l hc dX9_digest_217 (fun v_50 e_50 => ?_)
                              refine rm_ladd hc dX9_digest_218 (fun v_51 e_51 => ?_)
                              refine rm_lstore_n (ls' := [(0, .ref (ad 15 14 0)), (1, .long v_51), (3, .int (nI (d4))), (4, .int (nI (f7)))]) hc dX9_digest_219 rfl (by decide) rfl ?_
                              refine rm_iinc (v := (nI (f7 + 1))) (ls' := [(0, .ref (ad 15 14 0)), (1, .long v_51), (3, .int (nI (d4))), (4, .int (nI (f7 + 1)))]) hc dX9_digest_220 rfl (nIj (by omega)) (by decide) rfl ?_
                              refine rm_goto (tgt := 186) hc dX9_digest_223 (by decide) ?_
                              refine rm_sub [0, 1, 3, 4] rfl ?_
                              exact ih (f7 + 1) _ _ (by omega) hE_49 (by rw [hsh_flat, ← hhf7]; rw [e_51, e_48, e_47, e_44, e_46, e_50, e_45, e_49]; exact hsh_2)
                          exact key186 4 0 _ _ (by omega) hE_39 hsh_f0
                        | succ f ih =>
                          intro k6 zmk6 hv6 hifk6 hEk6 hhk6
                          refine rm_iload hc dX9_digest_136 rfl ?_
                          refine rm_bipush (v := 16) hc dX9_digest_138 (by decide) ?_
                          refine rm_icmp_ge (tgt := 170) hc dX9_digest_140 (by decide) (fun h => absurd h (fun h2 => absurd ((nI_leI (a := 16) (b := k6) (by omega) (by omega)).mp h2) (by omega))) (fun _ => ?_)
                          refine rm_ldc2 hc dX9_digest_143 kc_X9_181 ?_
                          refine rm_lload_n hc dX9_digest_146 rfl rfl ?_
                          refine rm_lmul hc dX9_digest_147 (fun v_53 e_53 => ?_)
                          refine rm_aload_n hc dX9_digest_148 rfl rfl ?_
                          refine rm_iload_n hc dX9_digest_149 rfl rfl ?_
                          refine rm_iload hc dX9_digest_150 rfl ?_
                          refine rm_iconst (v := 4) hc dX9_digest_152 (by decide) ?_
                          refine rm_idiv hc dX9_digest_153 (by decide) (fun v_54 e_54 => ?_)
                          obtain rfl : v_54 = nI (k6 / 4) := e_54.trans (pk_div (d := 4) (by omega) (by omega) (by omega))
                          refine rm_iload hc dX9_digest_154 rfl ?_
                          refine rm_iconst (v := 4) hc dX9_digest_156 (by decide) ?_
                          refine rm_irem hc dX9_digest_157 (by decide) (fun v_55 e_55 => ?_)
                          obtain rfl : v_55 = nI (k6 % 4) := e_55.trans (pk_rem (d := 4) (by omega) (by omega) (by omega))
                          refine rm_calliV (As := [.int (nI (d4)), .int (nI (k6 / 4)), .int (nI (k6 % 4))]) (rest := [.long v_53]) hc dX9_digest_158 (c_X9_ofSlot hI zmk6 (d := d4) (s0 := (k6 / 4)) (w := (k6 % 4)) (by omega) (by omega) (by omega)) mv_X9_152 dm_14 rfl rfl (hn := rfl) (hst := rfl) (hw := Nat.le_of_ble_eq_true rfl) (hR := ⟨⟨rfl, rfl⟩, Nat.le_of_ble_eq_true rfl, Nat.le_of_ble_eq_true rfl⟩) (hnc := ⟨Nat.zero_le _, Nat.zero_le _⟩) (fun r_56 y_56 h_56 => ?_)
                          obtain ⟨e_56, ey_56⟩ := h_56
                          obtain rfl := ey_56.symm
                          rw [ofS_b (hEk6.blk (b := 10) (by omega) (by omega))] at e_56
                          refine rm_i2l hc dX9_digest_161 (fun v_57 e_57 => ?_)
                          refine rm_ladd hc dX9_digest_162 (fun v_58 e_58 => ?_)
                          refine rm_lstore_n (ls' := [(0, .ref (ad 15 14 0)), (1, .long v_58), (3, .int (nI (d4))), (4, .int (nI (k6)))]) hc dX9_digest_163 rfl (by decide) rfl ?_
                          refine rm_iinc (v := (nI (k6 + 1))) (ls' := [(0, .ref (ad 15 14 0)), (1, .long v_58), (3, .int (nI (d4))), (4, .int (nI (k6 + 1)))]) hc dX9_digest_164 rfl (nIj (by omega)) (by decide) rfl ?_
                          refine rm_goto (tgt := 136) hc dX9_digest_167 (by decide) ?_
                          refine rm_sub [0, 1, 3, 4] rfl ?_
                          exact ih (k6 + 1) _ _ (by omega) hEk6 (by rw [hsh_range, ← hhk6, e_58, e_53, e_57, e_56])
                      exact key136 16 0 _ _ (by omega) hEw5 hsh_m0
                    | succ f ih =>
                      intro w5 zmw5 hv5 hifw5 hEw5 hhw5
                      refine rm_iload hc dX9_digest_105 rfl ?_
                      refine rm_bipush (v := 8) hc dX9_digest_107 (by decide) ?_
                      refine rm_icmp_ge (tgt := 133) hc dX9_digest_109 (by decide) (fun h => absurd h (fun h2 => absurd ((nI_leI (a := 8) (b := w5) (by omega) (by omega)).mp h2) (by omega))) (fun _ => ?_)
                      refine rm_ldc2 hc dX9_digest_112 kc_X9_181 ?_
                      refine rm_lload_n hc dX9_digest_115 rfl rfl ?_
                      refine rm_lmul hc dX9_digest_116 (fun v_60 e_60 => ?_)
                      refine rm_aload_n hc dX9_digest_117 rfl rfl ?_
                      refine rm_iload_n hc dX9_digest_118 rfl rfl ?_
                      refine rm_iload hc dX9_digest_119 rfl ?_
                      refine rm_calliV (As := [.int (nI (d4)), .int (nI (w5))]) (rest := [.long v_60]) hc dX9_digest_121 (c_X9_ofDoor_n hI zmw5 (d := d4) (by omega) (w := w5) (by omega)) mv_X9_156 dm_14 rfl rfl (hn := rfl) (hst := rfl) (hw := Nat.le_of_ble_eq_true rfl) (hR := ⟨⟨rfl, rfl⟩, Nat.le_of_ble_eq_true rfl, Nat.le_of_ble_eq_true rfl⟩) (hnc := ⟨Nat.zero_le _, Nat.zero_le _⟩) (fun r_61 y_61 h_61 => ?_)
                      obtain ⟨e_61, ey_61⟩ := h_61
                      obtain rfl := ey_61.symm
                      rw [ofD_b (hEw5.blk (b := 10) (by omega) (by omega))] at e_61
                      refine rm_i2l hc dX9_digest_124 (fun v_62 e_62 => ?_)
                      refine rm_ladd hc dX9_digest_125 (fun v_63 e_63 => ?_)
                      refine rm_lstore_n (ls' := [(0, .ref (ad 15 14 0)), (1, .long v_63), (3, .int (nI (d4))), (4, .int (nI (w5)))]) hc dX9_digest_126 rfl (by decide) rfl ?_
                      refine rm_iinc (v := (nI (w5 + 1))) (ls' := [(0, .ref (ad 15 14 0)), (1, .long v_63), (3, .int (nI (d4))), (4, .int (nI (w5 + 1)))]) hc dX9_digest_127 rfl (nIj (by omega)) (by decide) rfl ?_
                      refine rm_goto (tgt := 105) hc dX9_digest_130 (by decide) ?_
                      refine rm_sub [0, 1, 3, 4] rfl ?_
                      exact ih (w5 + 1) _ _ (by omega) hEw5 (by rw [hsh_range, ← hhw5, e_63, e_60, e_62, e_61])
                  exact key105 8 0 _ _ (by omega) hEd4 hsh_m0
              exact key97 3 0 _ _ (by omega) hEi3 (hdm3.trans hsh_f0)
            | succ f ih =>
              intro i3 zmi3 hv3 hifi3 hEi3 hhi3
              refine rm_iload_n hc dX9_digest_65 rfl rfl ?_
              refine rm_bipush (v := 20) hc dX9_digest_66 (by decide) ?_
              refine rm_icmp_ge (tgt := 95) hc dX9_digest_68 (by decide) (fun h => absurd h (fun h2 => absurd ((nI_leI (a := 20) (b := i3) (by omega) (by omega)).mp h2) (by omega))) (fun _ => ?_)
              refine rm_ldc2 hc dX9_digest_71 kc_X9_181 ?_
              refine rm_lload_n hc dX9_digest_74 rfl rfl ?_
              refine rm_lmul hc dX9_digest_75 (fun v_65 e_65 => ?_)
              refine rm_aload_n hc dX9_digest_76 rfl rfl ?_
              refine rm_iload_n hc dX9_digest_77 rfl rfl ?_
              refine rm_iconst (v := 5) hc dX9_digest_78 (by decide) ?_
              refine rm_idiv hc dX9_digest_79 (by decide) (fun v_66 e_66 => ?_)
              obtain rfl : v_66 = nI (i3 / 5) := e_66.trans (pk_div (d := 5) (by omega) (by omega) (by omega))
              refine rm_iload_n hc dX9_digest_80 rfl rfl ?_
              refine rm_iconst (v := 5) hc dX9_digest_81 (by decide) ?_
              refine rm_irem hc dX9_digest_82 (by decide) (fun v_67 e_67 => ?_)
              obtain rfl : v_67 = nI (i3 % 5) := e_67.trans (pk_rem (d := 5) (by omega) (by omega) (by omega))
              refine rm_calliV (As := [.int (nI (i3 / 5)), .int (nI (i3 % 5))]) (rest := [.long v_65]) hc dX9_digest_83 (c_X9_ofFob_n hI zmi3 (j := (i3 / 5)) (by omega) (by rw [hEi3.blk (b := 10) (by omega) (by omega)]; exact hRF1) (w := (i3 % 5)) (by omega)) mv_X9_149 dm_14 rfl rfl (hn := rfl) (hst := rfl) (hw := Nat.le_of_ble_eq_true rfl) (hR := ⟨⟨rfl, rfl⟩, Nat.le_of_ble_eq_true rfl, Nat.le_of_ble_eq_true rfl⟩) (hnc := ⟨Nat.zero_le _, Nat.zero_le _⟩) (fun r_68 y_68 h_68 => ?_)
              obtain ⟨e_68, ey_68⟩ := h_68
              obtain rfl := ey_68.symm
              rw [ofF_b (hEi3.blk (b := 10) (by omega) (by omega))] at e_68
              refine rm_i2l hc dX9_digest_86 (fun v_69 e_69 => ?_)
              refine rm_ladd hc dX9_digest_87 (fun v_70 e_70 => ?_)
              refine rm_lstore_n (ls' := [(0, .ref (ad 15 14 0)), (1, .long v_70), (3, .int (nI (i3)))]) hc dX9_digest_88 rfl (by decide) rfl ?_
              refine rm_iinc (v := (nI (i3 + 1))) (ls' := [(0, .ref (ad 15 14 0)), (1, .long v_70), (3, .int (nI (i3 + 1)))]) hc dX9_digest_89 rfl (nIj (by omega)) (by decide) rfl ?_
              refine rm_goto (tgt := 65) hc dX9_digest_92 (by decide) ?_
              refine rm_sub [0, 1, 3] rfl ?_
              exact ih (i3 + 1) _ _ (by omega) hEi3 (by rw [hsh_range, ← hhi3, e_70, e_65, e_69, e_68])
          exact key65 20 0 _ _ (by omega) hEi2 (hdm2.trans hsh_m0)
        | succ f ih =>
          intro i2 zmi2 hv2 hifi2 hEi2 hhi2
          refine rm_iload_n hc dX9_digest_38 rfl rfl ?_
          refine rm_iconst (v := 3) hc dX9_digest_39 (by decide) ?_
          refine rm_icmp_ge (tgt := 63) hc dX9_digest_40 (by decide) (fun h => absurd h (fun h2 => absurd ((nI_leI (a := 3) (b := i2) (by omega) (by omega)).mp h2) (by omega))) (fun _ => ?_)
          refine rm_ldc2 hc dX9_digest_43 kc_X9_181 ?_
          refine rm_lload_n hc dX9_digest_46 rfl rfl ?_
          refine rm_lmul hc dX9_digest_47 (fun v_72 e_72 => ?_)
          refine rm_aload_n hc dX9_digest_48 rfl rfl ?_
          refine rm_get hc dX9_digest_49 fl_X9_7 dm_14 rfl rfl ?_
          refine rm_iload_n hc dX9_digest_52 rfl rfl ?_
          refine rm_iald (i := i2) hc dX9_digest_53 (dm_15 (by omega)) rfl (by omega) (by decide) rfl (fun v_73 e_73 => ?_)
          have ev_73 : v_73 = x_1 10 i2 := by rw [e_73, hEi2.blk (b := 10) (by omega) (by omega)]
          refine rm_i2l hc dX9_digest_54 (fun v_74 e_74 => ?_)
          refine rm_ladd hc dX9_digest_55 (fun v_75 e_75 => ?_)
          refine rm_lstore_n (ls' := [(0, .ref (ad 15 14 0)), (1, .long v_75), (3, .int (nI (i2)))]) hc dX9_digest_56 rfl (by decide) rfl ?_
          refine rm_iinc (v := (nI (i2 + 1))) (ls' := [(0, .ref (ad 15 14 0)), (1, .long v_75), (3, .int (nI (i2 + 1)))]) hc dX9_digest_57 rfl (nIj (by omega)) (by decide) rfl ?_
          refine rm_goto (tgt := 38) hc dX9_digest_60 (by decide) ?_
          refine rm_sub [0, 1, 3] rfl ?_
          exact ih (i2 + 1) _ _ (by omega) hEi2 (by rw [hsh_range, ← hhi2, e_75, e_72, e_74, ev_73])
      exact key38 3 0 _ _ (by omega) hEi1 (hdm1.trans hsh_m0)
    | succ f ih =>
      intro i1 zmi1 hv1 hifi1 hEi1 hhi1
      refine rm_iload_n hc dX9_digest_11 rfl rfl ?_
      refine rm_bipush (v := 8) hc dX9_digest_12 (by decide) ?_
      refine rm_icmp_ge (tgt := 36) hc dX9_digest_14 (by decide) (fun h => absurd h (fun h2 => absurd ((nI_leI (a := 8) (b := i1) (by omega) (by omega)).mp h2) (by omega))) (fun _ => ?_)
      refine rm_ldc2 hc dX9_digest_17 kc_X9_181 ?_
      refine rm_lload_n hc dX9_digest_20 rfl rfl ?_
      refine rm_lmul hc dX9_digest_21 (fun v_77 e_77 => ?_)
      refine rm_aload_n hc dX9_digest_22 rfl rfl ?_
      refine rm_iload_n hc dX9_digest_23 rfl rfl ?_
      refine rm_calliV (As := [.int (nI (i1))]) (rest := [.long v_77]) hc dX9_digest_24 (c_X9_counted_n hI zmi1 (w := i1) (by omega)) mv_X9_162 dm_14 rfl rfl (hn := rfl) (hst := rfl) (hw := Nat.le_of_ble_eq_true rfl) (hR := ⟨⟨rfl, rfl⟩, Nat.le_of_ble_eq_true rfl, Nat.le_of_ble_eq_true rfl⟩) (hnc := ⟨Nat.zero_le _, Nat.zero_le _⟩) (fun r_78 y_78 h_78 => ?_)
      obtain ⟨e_78, ey_78⟩ := h_78
      obtain rfl := ey_78.symm
      rw [cntM_b (hEi1.blk (b := 10) (by omega) (by omega)) (hEi1 15 0 (Or.inl (by omega)) (by omega))] at e_78
      refine rm_i2l hc dX9_digest_27 (fun v_79 e_79 => ?_)
      refine rm_ladd hc dX9_digest_28 (fun v_80 e_80 => ?_)
      refine rm_lstore_n (ls' := [(0, .ref (ad 15 14 0)), (1, .long v_80), (3, .int (nI (i1)))]) hc dX9_digest_29 rfl (by decide) rfl ?_
      refine rm_iinc (v := (nI (i1 + 1))) (ls' := [(0, .ref (ad 15 14 0)), (1, .long v_80), (3, .int (nI (i1 + 1)))]) hc dX9_digest_30 rfl (nIj (by omega)) (by decide) rfl ?_
      refine rm_goto (tgt := 11) hc dX9_digest_33 (by decide) ?_
      refine rm_sub [0, 1, 3] rfl ?_
      exact ih (i1 + 1) _ _ (by omega) hEi1 (by rw [hsh_range, ← hhi1, e_80, e_77, e_79, e_78])
  exact key11 8 0 _ _ (by omega) (M11.rf x_1) hsh_m0
