theorem hsh_m0 {h : Int64} {g : Nat → Int32} : h = hsh h ((List.range 0).map g) := rfl
theorem hsh_f0 {h : Int64} {g : Nat → List Int32} : h = hsh h ((List.range 0).flatMap g) := rfl
theorem hsh_range {h : Int64} {g : Nat → Int32} {i : Nat} : hsh h ((List.range (i + 1)).map g) = 31 * hsh h ((List.range i).map g) + (g i).toInt64 := by
  rw [List.range_succ, List.map_append, hsh_app]
  rfl
theorem hsh_flat {h : Int64} {g : Nat → List Int32} {i : Nat} : hsh h ((List.range (i + 1)).flatMap g) = hsh (hsh h ((List.range i).flatMap g)) (g i) := by
  rw [List.range_succ, List.flatMap_append, hsh_app]
  simp
theorem E7.dor {x y : Mem} (h : E7 x y) {d mm nr : Nat} {nb : Nat → Nat} : dorL y d mm nr nb = dorL x d mm nr nb := by
  have h0 : y 0 = x 0 := h 0 (by omega)
  unfold dorL ptoX munX lookDoor lrnD lookSlot
  rw [fus_congr h, h0, pto_congr _ _ _ _ _ h.PT, pto_congr _ _ _ _ _ h.PT, pto_congr _ _ _ _ _ h.PT, pto_congr _ _ _ _ _ h.PT, mun_congr h, mun_congr h, mun_congr h, mun_congr h]
theorem E7.cnt {x y : Mem} (h : E7 x y) {w : Int32} : cntS y w = cntS x w := by
  unfold cntS
  rw [h 0 (by omega), h 8 (by omega)]
theorem E7.val {x y : Mem} (h : E7 x y) {w : Int32} : valS y 0 w = valS x 0 w := by
  unfold valS
  rw [h 0 (by omega)]
theorem E7.lkf {x y : Mem} (h : E7 x y) {j : Nat} {w : Int32} : lookFob y 0 j w = lookFob x 0 j w := by
  unfold lookFob
  rw [h 0 (by omega)]
def dg1 (x : Mem) : Int64 := hsh 3257 ((List.range 8).map fun i => cntS x (nI i))
def dg2 (x : Mem) : Int64 := hsh (dg1 x) ((List.range 3).map fun i => valS x 0 (nI i))
def fobL (x : Mem) (j : Nat) : List Int32 := (List.range 5).map fun w => lookFob x 0 j (nI w)
def dg3 (x : Mem) : Int64 := hsh (dg2 x) ((List.range 4).flatMap fun j => fobL x j)
def dg4 (x : Mem) (mm nr : Nat) (nb : Nat → Nat) : Int64 := hsh (dg3 x) ((List.range 3).flatMap fun d => dorL x d mm nr nb)
def dg5 (x : Mem) (mm nr : Nat) (nb : Nat → Nat) : Int64 := hsh (dg4 x mm nr nb) ((List.range nr).map fun i => numA x 0 (nI i))
def dg6 (x : Mem) (mm nr : Nat) (nb : Nat → Nat) (oa ow tl : Nat) : Int64 := 31 * (31 * (31 * dg5 x mm nr nb + (hrR x 0 0 0 7919 mm).toInt64) + (shrS oa ow).toInt64) + (nI tl).toInt64
def dgC (x : Mem) (mm nr : Nat) (nb : Nat → Nat) (oa ow tl : Nat) : Int64 := hsh (dg6 x mm nr nb oa ow tl) ((List.range tl).map fun i => codeS x (nI i))
set_option maxHeartbeats 4000000 in
set_option maxRecDepth 100000 in
theorem c_X8_digest {l : Launch} {D : va_G} {cy : Nat → ClassId} {ad : Ads} (hI : IJ ad) (x : Mem) {nr : Nat} {nb : Nat → Nat} (mm : Nat) (hmm : mm < 2 ^ 30) (hw : x 0 1 = nI mm) (hF : FLG x 0) (hnr : x 0 5 = nI nr) (hr8 : nr ≤ 8) (hnb : ∀ j, j < 4 → x 0 (16 + 4 * j) = nI (nb j)) (hb9 : ∀ j, j < 4 → nb j ≤ 999) {oa ow : Nat} (hoa : sum3 (x 0 32) (x 0 54) (x 0 76) = nI oa) (how : sum3 (x 0 34) (x 0 56) (x 0 78) = nI ow) (hso : oa + ow < 2 ^ 20) {tl : Nat} (htl : x 8 2 = nI tl) (ht6 : tl ≤ 60) : Ctl l yX8_digest cX8_digest 8 (some .long) rm_X8_digest D cy ad [.ref (ad 8 9 0)] x (fun r y => r = dgC x mm nr nb oa ow tl ∧ E7 x y) := by
  refine rm_entry (Qc := Ql D cy ad (fun r y => r = dgC x mm nr nb oa ow tl ∧ E7 x y)) hI (by decide) (Nat.le_of_ble_eq_true rfl) ?_
  intro p e s m args below meth c hc
  show RM _ _ _ _ _ _ _ _ _ _ _ _ _ _ _ _ _ [(0, .ref (ad 8 9 0))] []
  refine rm_ldc2 hc dX8_digest_0 kc_X8_200 ?_
  refine rm_lstore_n (ls' := [(0, .ref (ad 8 9 0)), (1, .long 3257)]) hc dX8_digest_3 rfl (by decide) rfl ?_
  refine rm_iconst (v := 0) hc dX8_digest_4 (by decide) ?_
  refine rm_istore_n (ls' := [(0, .ref (ad 8 9 0)), (1, .long 3257), (3, .int 0)]) hc dX8_digest_5 rfl (by decide) rfl ?_
  refine rm_sub [0, 1, 3] rfl ?_
  have key6 : ∀ (f : Nat) (i1 : Nat) (zmi1 : Mem) (hv1 : Int64), i1 + f = 8 → E7 x zmi1 → hv1 = hsh (3257) ((List.range i1).map fun q => cntS x (nI q)) → RM p l e rm_X8_digest s m args below meth c 8 (AA ad s.heap.size) (GG D cy ad zmi1) 0 0 (QQ (Ql D cy ad (fun r y => r = dgC x mm nr nb oa ow tl ∧ E7 x y)) below args s ad) 6 [(0, .ref (ad 8 9 0)), (1, .long hv1), (3, .int (nI (i1)))] [] := by
    intro f
    induction f with
    | zero =>
      intro i1 zmi1 hv1 hifi1 hEi1 hhi1
      have hni1 : i1 = 8 := by omega
      have hdi1 : hv1 = hsh (3257) ((List.range 8).map fun q => cntS x (nI q)) := by rw [hhi1, hni1]
      refine rm_iload_n hc dX8_digest_6 rfl rfl ?_
      refine rm_bipush (v := 8) hc dX8_digest_7 (by decide) ?_
      refine rm_icmp_ge (tgt := 29) hc dX8_digest_9 (by decide) (fun _ => ?_) (fun h => absurd ((nI_leI (a := 8) (b := i1) (by omega) (by omega)).mpr (by omega)) h)
      have hdg1 : hv1 = dg1 x := hdi1
      refine rm_iconst (v := 0) hc dX8_digest_29 (by decide) ?_
      refine rm_istore_n (ls' := [(0, .ref (ad 8 9 0)), (1, .long hv1), (3, .int 0)]) hc dX8_digest_30 rfl (by decide) rfl ?_
      refine rm_sub [0, 1, 3] rfl ?_
      have key31 : ∀ (f : Nat) (i2 : Nat) (zmi2 : Mem) (hv2 : Int64), i2 + f = 3 → E7 x zmi2 → hv2 = hsh (dg1 x) ((List.range i2).map fun q => valS x 0 (nI q)) → RM p l e rm_X8_digest s m args below meth c 8 (AA ad s.heap.size) (GG D cy ad zmi2) 0 0 (QQ (Ql D cy ad (fun r y => r = dgC x mm nr nb oa ow tl ∧ E7 x y)) below args s ad) 31 [(0, .ref (ad 8 9 0)), (1, .long hv2), (3, .int (nI (i2)))] [] := by
        intro f
        induction f with
        | zero =>
          intro i2 zmi2 hv2 hifi2 hEi2 hhi2
          have hni2 : i2 = 3 := by omega
          have hdi2 : hv2 = hsh (dg1 x) ((List.range 3).map fun q => valS x 0 (nI q)) := by rw [hhi2, hni2]
          refine rm_iload_n hc dX8_digest_31 rfl rfl ?_
          refine rm_iconst (v := 3) hc dX8_digest_32 (by decide) ?_
          refine rm_icmp_ge (tgt := 59) hc dX8_digest_33 (by decide) (fun _ => ?_) (fun h => absurd ((nI_leI (a := 3) (b := i2) (by omega) (by omega)).mpr (by omega)) h)
          have hdg2 : hv2 = dg2 x := hdi2
          refine rm_aload_n hc dX8_digest_59 rfl rfl ?_
          refine rm_get hc dX8_digest_60 fl_X8_10 dm_9 rfl rfl ?_
          refine rm_get hc dX8_digest_63 fl_X8_49 (dm_0 (by omega)) rfl rfl ?_
          refine rm_astore_n (ls' := [(0, .ref (ad 8 9 0)), (1, .long hv2), (3, .ref (ad 0 1 0))]) hc dX8_digest_66 rfl (by decide) rfl ?_
          refine rm_aload_n hc dX8_digest_67 rfl rfl ?_
          refine rm_alen (n := 0) (t0 := 1) (v := 4) hc dX8_digest_68 (dm_1 (by omega)) rfl rfl rfl ?_
          refine rm_istore (ls' := [(0, .ref (ad 8 9 0)), (1, .long hv2), (3, .ref (ad 0 1 0)), (4, .int 4)]) hc dX8_digest_69 (by decide) rfl ?_
          refine rm_iconst (v := 0) hc dX8_digest_71 (by decide) ?_
          refine rm_istore (ls' := [(0, .ref (ad 8 9 0)), (1, .long hv2), (3, .ref (ad 0 1 0)), (4, .int 4), (5, .int 0)]) hc dX8_digest_72 (by decide) rfl ?_
          refine rm_sub [0, 1, 3, 4, 5] rfl ?_
          have key74 : ∀ (f : Nat) (j3 : Nat) (zmj3 : Mem) (hv3 : Int64), j3 + f = 4 → E7 x zmj3 → hv3 = hsh (dg2 x) ((List.range j3).flatMap fun q => fobL x q) → RM p l e rm_X8_digest s m args below meth c 8 (AA ad s.heap.size) (GG D cy ad zmj3) 0 0 (QQ (Ql D cy ad (fun r y => r = dgC x mm nr nb oa ow tl ∧ E7 x y)) below args s ad) 74 [(0, .ref (ad 8 9 0)), (1, .long hv3), (3, .ref (ad 0 1 0)), (4, .int 4), (5, .int (nI (j3)))] [] := by
            intro f
            induction f with
            | zero =>
              intro j3 zmj3 hv3 hifj3 hEj3 hhj3
              have hnj3 : j3 = 4 := by omega
              have hdj3 : hv3 = hsh (dg2 x) ((List.range 4).flatMap fun q => fobL x q) := by rw [hhj3, hnj3]
              refine rm_iload hc dX8_digest_74 rfl ?_
              refine rm_iload hc dX8_digest_76 rfl ?_
              refine rm_icmp_ge (tgt := 121) hc dX8_digest_78 (by decide) (fun _ => ?_) (fun h => absurd ((nI_leI (a := 4) (b := j3) (by omega) (by omega)).mpr (by omega)) h)
              have hdg3 : hv3 = dg3 x := hdj3
              refine rm_aload_n hc dX8_digest_121 rfl rfl ?_
              refine rm_get hc dX8_digest_122 fl_X8_10 dm_9 rfl rfl ?_
              refine rm_get hc dX8_digest_125 fl_X8_89 (dm_0 (by omega)) rfl rfl ?_
              refine rm_astore_n (ls' := [(0, .ref (ad 8 9 0)), (1, .long hv3), (3, .ref (ad 0 3 0)), (4, .int 4), (5, .int (nI (j3)))]) hc dX8_digest_128 rfl (by decide) rfl ?_
              refine rm_aload_n hc dX8_digest_129 rfl rfl ?_
              refine rm_alen (n := 0) (t0 := 2) (v := 3) hc dX8_digest_130 (dm_3 (by omega)) rfl rfl rfl ?_
              refine rm_istore (ls' := [(0, .ref (ad 8 9 0)), (1, .long hv3), (3, .ref (ad 0 3 0)), (4, .int 3), (5, .int (nI (j3)))]) hc dX8_digest_131 (by decide) rfl ?_
              refine rm_iconst (v := 0) hc dX8_digest_133 (by decide) ?_
              refine rm_istore (ls' := [(0, .ref (ad 8 9 0)), (1, .long hv3), (3, .ref (ad 0 3 0)), (4, .int 3), (5, .int 0)]) hc dX8_digest_134 (by decide) rfl ?_
              refine rm_sub [0, 1, 3, 4, 5] rfl ?_
              have key136 : ∀ (f : Nat) (d5 : Nat) (zmd5 : Mem) (hv5 : Int64), d5 + f = 3 → E7 x zmd5 → hv5 = hsh (dg3 x) ((List.range d5).flatMap fun q => dorL x q mm nr nb) → RM p l e rm_X8_digest s m args below meth c 8 (AA ad s.heap.size) (GG D cy ad zmd5) 0 0 (QQ (Ql D cy ad (fun r y => r = dgC x mm nr nb oa ow tl ∧ E7 x y)) below args s ad) 136 [(0, .ref (ad 8 9 0)), (1, .long hv5), (3, .ref (ad 0 3 0)), (4, .int 3), (5, .int (nI (d5)))] [] := by
                intro f
                induction f with
                | zero =>
                  intro d5 zmd5 hv5 hifd5 hEd5 hhd5
                  have hnd5 : d5 = 3 := by omega
                  have hdd5 : hv5 = hsh (dg3 x) ((List.range 3).flatMap fun q => dorL x q mm nr nb) := by rw [hhd5, hnd5]
                  refine rm_iload hc dX8_digest_136 rfl ?_
                  refine rm_iload hc dX8_digest_138 rfl ?_
                  refine rm_icmp_ge (tgt := 163) hc dX8_digest_140 (by decide) (fun _ => ?_) (fun h => absurd ((nI_leI (a := 3) (b := d5) (by omega) (by omega)).mpr (by omega)) h)
                  have hdg4 : hv5 = dg4 x mm nr nb := hdd5
                  refine rm_iconst (v := 0) hc dX8_digest_163 (by decide) ?_
                  refine rm_istore_n (ls' := [(0, .ref (ad 8 9 0)), (1, .long hv5), (3, .int 0), (4, .int 3), (5, .int (nI (d5)))]) hc dX8_digest_164 rfl (by decide) rfl ?_
                  refine rm_sub [0, 1, 3] rfl ?_
                  have key165 : ∀ (f : Nat) (i6 : Nat) (zmi6 : Mem) (hv6 : Int64), i6 + f = nr → E7 x zmi6 → hv6 = hsh (dg4 x mm nr nb) ((List.range i6).map fun q => numA x 0 (nI q)) → RM p l e rm_X8_digest s m args below meth c 8 (AA ad s.heap.size) (GG D cy ad zmi6) 0 0 (QQ (Ql D cy ad (fun r y => r = dgC x mm nr nb oa ow tl ∧ E7 x y)) below args s ad) 165 [(0, .ref (ad 8 9 0)), (1, .long hv6), (3, .int (nI (i6)))] [] := by
                    intro f
                    induction f with
                    | zero =>
                      intro i6 zmi6 hv6 hifi6 hEi6 hhi6
                      have hni6 : i6 = nr := by omega
                      have hdi6 : hv6 = hsh (dg4 x mm nr nb) ((List.range nr).map fun q => numA x 0 (nI q)) := by rw [hhi6, hni6]
                      refine rm_iload_n hc dX8_digest_165 rfl rfl ?_
                      refine rm_aload_n hc dX8_digest_166 rfl rfl ?_
                      refine rm_get hc dX8_digest_167 fl_X8_10 dm_9 rfl rfl ?_
                      refine rm_get hc dX8_digest_170 fl_X8_77 (dm_0 (by omega)) rfl rfl ?_
                      refine rm_geti hc dX8_digest_173 fl_X8_81 (dm_6 (by omega)) rfl rfl (fun v_5 e_5 => ?_)
                      obtain rfl : v_5 = nI nr := e_5.trans ((hEi6.at (by omega)).trans hnr)
                      refine rm_icmp_ge (tgt := 202) hc dX8_digest_176 (by decide) (fun _ => ?_) (fun h => absurd ((nI_leI (a := nr) (b := i6) (by omega) (by omega)).mpr (by omega)) h)
                      have hdg5 : hv6 = dg5 x mm nr nb := hdi6
                      refine rm_lload_n hc dX8_digest_202 rfl rfl ?_
                      refine rm_aload_n hc dX8_digest_203 rfl rfl ?_
                      refine rm_aload_n hc dX8_digest_204 rfl rfl ?_
                      refine rm_get hc dX8_digest_205 fl_X8_10 dm_9 rfl rfl ?_
                      refine rm_get hc dX8_digest_208 fl_X8_89 (dm_0 (by omega)) rfl rfl ?_
                      refine rm_iconst (v := 0) hc dX8_digest_211 (by decide) ?_
                      refine rm_aald (t0 := 2) (i := 0) (v := .ref (ad 0 4 0)) hc dX8_digest_212 (dm_3 (by omega)) rfl rfl (by omega) (by decide) rfl rfl ?_
                      refine rm_sipush (v := 7919) hc dX8_digest_213 (by decide) ?_
                      refine rm_calliV (As := [.ref (ad 0 4 0), .int 7919]) (rest := [.long hv6]) hc dX8_digest_216 (c_X8_tryNumber hI zmi6 (d := 0) (by omega) mm (by omega) ((hEi6.at (by omega)).trans hw) (hEi6.flg (by omega) hF) 7919) mv_X8_179 dm_9 rfl rfl (hn := rfl) (hst := rfl) (hw := Nat.le_of_ble_eq_true rfl) (hR := ⟨⟨rfl, rfl⟩, Nat.le_of_ble_eq_true rfl, Nat.le_of_ble_eq_true rfl⟩) (hnc := ⟨Nat.zero_le _, Nat.zero_le _⟩) (fun r_7 y_7 h_7 => ?_)
                      obtain ⟨e_7, ey_7⟩ := h_7
                      rw [hEi6.hrd] at e_7
                      have hE_7 : E7 x y_7 := hEi6.tr ey_7
                      refine rm_i2l hc dX8_digest_219 (fun v_8 e_8 => ?_)
                      refine rm_calllS (As := [.long hv6, .long v_8]) (rest := []) hc dX8_digest_220 (c_X8_mixed hI y_7 hv6 v_8) ms_X8_202 (hn := rfl) (hst := rfl) (hw := Nat.le_of_ble_eq_true rfl) (hR := ⟨⟨rfl, rfl⟩, Nat.le_of_ble_eq_true rfl, Nat.le_of_ble_eq_true rfl⟩) (hnc := ⟨Nat.zero_le _, Nat.zero_le _⟩) (fun r_9 y_9 h_9 => ?_)
                      obtain ⟨e_9, ey_9⟩ := h_9
                      obtain rfl := ey_9.symm
                      refine rm_lstore_n (ls' := [(0, .ref (ad 8 9 0)), (1, .long r_9), (3, .int (nI (i6)))]) hc dX8_digest_223 rfl (by decide) rfl ?_
                      refine rm_lload_n hc dX8_digest_224 rfl rfl ?_
                      refine rm_aload_n hc dX8_digest_225 rfl rfl ?_
                      refine rm_calldV (As := []) (rest := [.long r_9]) hc dX8_digest_226 (c_X8_openShare hI y_7 (oa := oa) (ow := ow) (by rw [hE_7 0 (by omega)]; exact hoa) (by rw [hE_7 0 (by omega)]; exact how) hso) mv_X8_210 dm_9 rfl rfl (hn := rfl) (hst := rfl) (hw := Nat.le_of_ble_eq_true rfl) (hR := ⟨⟨rfl, rfl⟩, Nat.le_of_ble_eq_true rfl, Nat.le_of_ble_eq_true rfl⟩) (hnc := ⟨Nat.zero_le _, Nat.zero_le _⟩) (fun r_10 y_10 h_10 => ?_)
                      obtain ⟨e_10, ey_10⟩ := h_10
                      obtain rfl := ey_10.symm
                      obtain rfl : r_10 = shrS oa ow := e_10
                      refine rm_calllS (As := [.double (shrS oa ow)]) (rest := [.long r_9]) hc dX8_digest_229 (c_X8_shareBits hI y_7 (a := shrS oa ow) (shr_ok hso)) ms_X8_214 (hn := rfl) (hst := rfl) (hw := Nat.le_of_ble_eq_true rfl) (hR := ⟨⟨rfl, rfl⟩, Nat.le_of_ble_eq_true rfl, Nat.le_of_ble_eq_true rfl⟩) (hnc := ⟨Nat.zero_le _, Nat.zero_le _⟩) (fun r_11 y_11 h_11 => ?_)
                      obtain ⟨e_11, ey_11⟩ := h_11
                      obtain rfl := ey_11.symm
                      refine rm_calllS (As := [.long r_9, .long r_11]) (rest := []) hc dX8_digest_232 (c_X8_mixed hI y_7 r_9 r_11) ms_X8_202 (hn := rfl) (hst := rfl) (hw := Nat.le_of_ble_eq_true rfl) (hR := ⟨⟨rfl, rfl⟩, Nat.le_of_ble_eq_true rfl, Nat.le_of_ble_eq_true rfl⟩) (hnc := ⟨Nat.zero_le _, Nat.zero_le _⟩) (fun r_12 y_12 h_12 => ?_)
                      obtain ⟨e_12, ey_12⟩ := h_12
                      obtain rfl := ey_12.symm
                      refine rm_lstore_n (ls' := [(0, .ref (ad 8 9 0)), (1, .long r_12), (3, .int (nI (i6)))]) hc dX8_digest_235 rfl (by decide) rfl ?_
                      refine rm_lload_n hc dX8_digest_236 rfl rfl ?_
                      refine rm_aload_n hc dX8_digest_237 rfl rfl ?_
                      refine rm_get hc dX8_digest_238 fl_X8_26 dm_9 rfl rfl ?_
                      refine rm_geti hc dX8_digest_241 fl_X8_139 dm_12 rfl rfl (fun v_13 e_13 => ?_)
                      obtain rfl : v_13 = nI tl := e_13.trans ((hE_7.at (by omega)).trans htl)
                      refine rm_i2l hc dX8_digest_244 (fun v_14 e_14 => ?_)
                      refine rm_calllS (As := [.long r_12, .long v_14]) (rest := []) hc dX8_digest_245 (c_X8_mixed hI y_7 r_12 v_14) ms_X8_202 (hn := rfl) (hst := rfl) (hw := Nat.le_of_ble_eq_true rfl) (hR := ⟨⟨rfl, rfl⟩, Nat.le_of_ble_eq_true rfl, Nat.le_of_ble_eq_true rfl⟩) (hnc := ⟨Nat.zero_le _, Nat.zero_le _⟩) (fun r_15 y_15 h_15 => ?_)
                      obtain ⟨e_15, ey_15⟩ := h_15
                      obtain rfl := ey_15.symm
                      refine rm_lstore_n (ls' := [(0, .ref (ad 8 9 0)), (1, .long r_15), (3, .int (nI (i6)))]) hc dX8_digest_248 rfl (by decide) rfl ?_
                      have hdg6 : r_15 = dg6 x mm nr nb oa ow tl := by unfold dg6; rw [← hdg5, e_15, e_12, e_9, e_11, e_14, e_8, e_7]
                      refine rm_iconst (v := 0) hc dX8_digest_249 (by decide) ?_
                      refine rm_istore_n (ls' := [(0, .ref (ad 8 9 0)), (1, .long r_15), (3, .int 0)]) hc dX8_digest_250 rfl (by decide) rfl ?_
                      refine rm_sub [0, 1, 3] rfl ?_
                      have key251 : ∀ (f : Nat) (i7 : Nat) (zmi7 : Mem) (hv7 : Int64), i7 + f = tl → E7 x zmi7 → hv7 = hsh (dg6 x mm nr nb oa ow tl) ((List.range i7).map fun q => codeS x (nI q)) → RM p l e rm_X8_digest s m args below meth c 8 (AA ad s.heap.size) (GG D cy ad zmi7) 0 0 (QQ (Ql D cy ad (fun r y => r = dgC x mm nr nb oa ow tl ∧ E7 x y)) below args s ad) 251 [(0, .ref (ad 8 9 0)), (1, .long hv7), (3, .int (nI (i7)))] [] := by
                        intro f
                        induction f with
                        | zero =>
                          intro i7 zmi7 hv7 hifi7 hEi7 hhi7
                          have hni7 : i7 = tl := by omega
                          have hdi7 : hv7 = hsh (dg6 x mm nr nb oa ow tl) ((List.range tl).map fun q => codeS x (nI q)) := by rw [hhi7, hni7]
                          refine rm_iload_n hc dX8_digest_251 rfl rfl ?_
                          refine rm_aload_n hc dX8_digest_252 rfl rfl ?_
                          refine rm_get hc dX8_digest_253 fl_X8_26 dm_9 rfl rfl ?_
                          refine rm_geti hc dX8_digest_256 fl_X8_139 dm_12 rfl rfl (fun v_16 e_16 => ?_)
                          obtain rfl : v_16 = nI tl := e_16.trans ((hEi7.at (by omega)).trans htl)
                          refine rm_icmp_ge (tgt := 282) hc dX8_digest_259 (by decide) (fun _ => ?_) (fun h => absurd ((nI_leI (a := tl) (b := i7) (by omega) (by omega)).mpr (by omega)) h)
                          refine rm_lload_n hc dX8_digest_282 rfl rfl ?_
                          exact rm_lret hc dX8_digest_283 ⟨hdi7, hEi7⟩
                        | succ f ih =>
                          intro i7 zmi7 hv7 hifi7 hEi7 hhi7
                          refine rm_iload_n hc dX8_digest_251 rfl rfl ?_
                          refine rm_aload_n hc dX8_digest_252 rfl rfl ?_
                          refine rm_get hc dX8_digest_253 fl_X8_26 dm_9 rfl rfl ?_
                          refine rm_geti hc dX8_digest_256 fl_X8_139 dm_12 rfl rfl (fun v_18 e_18 => ?_)
                          obtain rfl : v_18 = nI tl := e_18.trans ((hEi7.at (by omega)).trans htl)
                          refine rm_icmp_ge (tgt := 282) hc dX8_digest_259 (by decide) (fun h => absurd h (fun h2 => absurd ((nI_leI (a := tl) (b := i7) (by omega) (by omega)).mp h2) (by omega))) (fun _ => ?_)
                          refine rm_lload_n hc dX8_digest_262 rfl rfl ?_
                          refine rm_aload_n hc dX8_digest_263 rfl rfl ?_
                          refine rm_get hc dX8_digest_264 fl_X8_26 dm_9 rfl rfl ?_
                          refine rm_iload_n hc dX8_digest_267 rfl rfl ?_
                          refine rm_calliV (As := [.int (nI (i7))]) (rest := [.long hv7]) hc dX8_digest_268 (c_X7_code hI zmi7 (nI (i7))) mv_X8_218 dm_12 rfl rfl (hn := rfl) (hst := rfl) (hw := Nat.le_of_ble_eq_true rfl) (hR := ⟨⟨rfl, rfl⟩, Nat.le_of_ble_eq_true rfl, Nat.le_of_ble_eq_true rfl⟩) (hnc := ⟨Nat.zero_le _, Nat.zero_le _⟩) (fun r_20 y_20 h_20 => ?_)
                          obtain ⟨e_20, ey_20⟩ := h_20
                          obtain rfl := ey_20.symm
                          rw [code_b (hEi7.at (by omega)) (hEi7 9 (by omega))] at e_20
                          refine rm_i2l hc dX8_digest_271 (fun v_21 e_21 => ?_)
                          refine rm_calllS (As := [.long hv7, .long v_21]) (rest := []) hc dX8_digest_272 (c_X8_mixed hI zmi7 hv7 v_21) ms_X8_202 (hn := rfl) (hst := rfl) (hw := Nat.le_of_ble_eq_true rfl) (hR := ⟨⟨rfl, rfl⟩, Nat.le_of_ble_eq_true rfl, Nat.le_of_ble_eq_true rfl⟩) (hnc := ⟨Nat.zero_le _, Nat.zero_le _⟩) (fun r_22 y_22 h_22 => ?_)
                          obtain ⟨e_22, ey_22⟩ := h_22
                          obtain rfl := ey_22.symm
                          refine rm_lstore_n (ls' := [(0, .ref (ad 8 9 0)), (1, .long r_22), (3, .int (nI (i7)))]) hc dX8_digest_275 rfl (by decide) rfl ?_
                          refine rm_iinc (v := (nI (i7 + 1))) (ls' := [(0, .ref (ad 8 9 0)), (1, .long r_22), (3, .int (nI (i7 + 1)))]) hc dX8_digest_276 rfl (nIj (by omega)) (by decide) rfl ?_
                          refine rm_goto (tgt := 251) hc dX8_digest_279 (by decide) ?_
                          refine rm_sub [0, 1, 3] rfl ?_
                          exact ih (i7 + 1) _ _ (by omega) hEi7 (by rw [hsh_range, ← hhi7, e_22, e_21, e_20])
                      exact key251 tl 0 _ _ (by omega) hE_7 (hdg6.trans hsh_m0)
                    | succ f ih =>
                      intro i6 zmi6 hv6 hifi6 hEi6 hhi6
                      refine rm_iload_n hc dX8_digest_165 rfl rfl ?_
                      refine rm_aload_n hc dX8_digest_166 rfl rfl ?_
                      refine rm_get hc dX8_digest_167 fl_X8_10 dm_9 rfl rfl ?_
                      refine rm_get hc dX8_digest_170 fl_X8_77 (dm_0 (by omega)) rfl rfl ?_
                      refine rm_geti hc dX8_digest_173 fl_X8_81 (dm_6 (by omega)) rfl rfl (fun v_23 e_23 => ?_)
                      obtain rfl : v_23 = nI nr := e_23.trans ((hEi6.at (by omega)).trans hnr)
                      refine rm_icmp_ge (tgt := 202) hc dX8_digest_176 (by decide) (fun h => absurd h (fun h2 => absurd ((nI_leI (a := nr) (b := i6) (by omega) (by omega)).mp h2) (by omega))) (fun _ => ?_)
                      refine rm_lload_n hc dX8_digest_179 rfl rfl ?_
                      refine rm_aload_n hc dX8_digest_180 rfl rfl ?_
                      refine rm_get hc dX8_digest_181 fl_X8_10 dm_9 rfl rfl ?_
                      refine rm_get hc dX8_digest_184 fl_X8_77 (dm_0 (by omega)) rfl rfl ?_
                      refine rm_iload_n hc dX8_digest_187 rfl rfl ?_
                      refine rm_calliV (As := [.int (nI (i6))]) (rest := [.long hv6]) hc dX8_digest_188 (c_X0_number hI zmi6 (k := 0) (by omega) (nI (i6))) mv_X8_172 (dm_6 (by omega)) rfl rfl (hn := rfl) (hst := rfl) (hw := Nat.le_of_ble_eq_true rfl) (hR := ⟨⟨rfl, rfl⟩, Nat.le_of_ble_eq_true rfl, Nat.le_of_ble_eq_true rfl⟩) (hnc := ⟨Nat.zero_le _, Nat.zero_le _⟩) (fun r_25 y_25 h_25 => ?_)
                      obtain ⟨e_25, ey_25⟩ := h_25
                      obtain rfl := ey_25.symm
                      rw [hEi6.num] at e_25
                      refine rm_i2l hc dX8_digest_191 (fun v_26 e_26 => ?_)
                      refine rm_calllS (As := [.long hv6, .long v_26]) (rest := []) hc dX8_digest_192 (c_X8_mixed hI zmi6 hv6 v_26) ms_X8_202 (hn := rfl) (hst := rfl) (hw := Nat.le_of_ble_eq_true rfl) (hR := ⟨⟨rfl, rfl⟩, Nat.le_of_ble_eq_true rfl, Nat.le_of_ble_eq_true rfl⟩) (hnc := ⟨Nat.zero_le _, Nat.zero_le _⟩) (fun r_27 y_27 h_27 => ?_)
                      obtain ⟨e_27, ey_27⟩ := h_27
                      obtain rfl := ey_27.symm
                      refine rm_lstore_n (ls' := [(0, .ref (ad 8 9 0)), (1, .long r_27), (3, .int (nI (i6)))]) hc dX8_digest_195 rfl (by decide) rfl ?_
                      refine rm_iinc (v := (nI (i6 + 1))) (ls' := [(0, .ref (ad 8 9 0)), (1, .long r_27), (3, .int (nI (i6 + 1)))]) hc dX8_digest_196 rfl (nIj (by omega)) (by decide) rfl ?_
                      refine rm_goto (tgt := 165) hc dX8_digest_199 (by decide) ?_
                      refine rm_sub [0, 1, 3] rfl ?_
                      exact ih (i6 + 1) _ _ (by omega) hEi6 (by rw [hsh_range, ← hhi6, e_27, e_26, e_25])
                  exact key165 nr 0 _ _ (by omega) hEd5 (hdg4.trans hsh_m0)
                | succ f ih =>
                  intro d5 zmd5 hv5 hifd5 hEd5 hhd5
                  refine rm_iload hc dX8_digest_136 rfl ?_
                  refine rm_iload hc dX8_digest_138 rfl ?_
                  refine rm_icmp_ge (tgt := 163) hc dX8_digest_140 (by decide) (fun h => absurd h (fun h2 => absurd ((nI_leI (a := 3) (b := d5) (by omega) (by omega)).mp h2) (by omega))) (fun _ => ?_)
                  refine rm_aload_n hc dX8_digest_143 rfl rfl ?_
                  refine rm_iload hc dX8_digest_144 rfl ?_
                  refine rm_aald (t0 := 2) (i := d5) (v := .ref (ad 0 4 d5)) hc dX8_digest_146 (dm_3 (by omega)) rfl rfl (by omega) (by decide) rfl rfl ?_
                  refine rm_astore (ls' := [(0, .ref (ad 8 9 0)), (1, .long hv5), (3, .ref (ad 0 3 0)), (4, .int 3), (5, .int (nI (d5))), (6, .ref (ad 0 4 d5))]) hc dX8_digest_147 (by decide) rfl ?_
                  refine rm_aload_n hc dX8_digest_149 rfl rfl ?_
                  refine rm_lload_n hc dX8_digest_150 rfl rfl ?_
                  refine rm_aload hc dX8_digest_151 rfl ?_
                  refine rm_calllV (As := [.long hv5, .ref (ad 0 4 d5)]) (rest := []) hc dX8_digest_153 (c_X8_mixedDoor hI zmd5 (d := d5) (nr := nr) (nb := nb) (by omega) mm (by omega) ((hEd5.at (by omega)).trans hw) (hEd5.flg (by omega) hF) ((hEd5.at (by omega)).trans hnr) (by omega) (fun j hj => (hEd5.at (by omega)).trans (hnb j hj)) hb9 hv5) mv_X8_206 dm_9 rfl rfl (hn := rfl) (hst := rfl) (hw := Nat.le_of_ble_eq_true rfl) (hR := ⟨⟨rfl, rfl⟩, Nat.le_of_ble_eq_true rfl, Nat.le_of_ble_eq_true rfl⟩) (hnc := ⟨Nat.zero_le _, Nat.zero_le _⟩) (fun r_29 y_29 h_29 => ?_)
                  obtain ⟨e_29, ey_29⟩ := h_29
                  rw [hEd5.dor] at e_29
                  have hE_29 : E7 x y_29 := hEd5.tr ey_29
                  refine rm_lstore_n (ls' := [(0, .ref (ad 8 9 0)), (1, .long r_29), (3, .ref (ad 0 3 0)), (4, .int 3), (5, .int (nI (d5))), (6, .ref (ad 0 4 d5))]) hc dX8_digest_156 rfl (by decide) rfl ?_
                  refine rm_iinc (v := (nI (d5 + 1))) (ls' := [(0, .ref (ad 8 9 0)), (1, .long r_29), (3, .ref (ad 0 3 0)), (4, .int 3), (5, .int (nI (d5 + 1))), (6, .ref (ad 0 4 d5))]) hc dX8_digest_157 rfl (nIj (by omega)) (by decide) rfl ?_
                  refine rm_goto (tgt := 136) hc dX8_digest_160 (by decide) ?_
                  refine rm_sub [0, 1, 3, 4, 5] rfl ?_
                  exact ih (d5 + 1) _ _ (by omega) hE_29 (by rw [hsh_flat, ← hhd5]; exact e_29)
              exact key136 3 0 _ _ (by omega) hEj3 (hdg3.trans hsh_f0)
            | succ f ih =>
              intro j3 zmj3 hv3 hifj3 hEj3 hhj3
              refine rm_iload hc dX8_digest_74 rfl ?_
              refine rm_iload hc dX8_digest_76 rfl ?_
              refine rm_icmp_ge (tgt := 121) hc dX8_digest_78 (by decide) (fun h => absurd h (fun h2 => absurd ((nI_leI (a := 4) (b := j3) (by omega) (by omega)).mp h2) (by omega))) (fun _ => ?_)
              refine rm_aload_n hc dX8_digest_81 rfl rfl ?_
              refine rm_iload hc dX8_digest_82 rfl ?_
              refine rm_aald (t0 := 1) (i := j3) (v := .ref (ad 0 2 j3)) hc dX8_digest_84 (dm_1 (by omega)) rfl rfl (by omega) (by decide) rfl rfl ?_
              refine rm_astore (ls' := [(0, .ref (ad 8 9 0)), (1, .long hv3), (3, .ref (ad 0 1 0)), (4, .int 4), (5, .int (nI (j3))), (6, .ref (ad 0 2 j3))]) hc dX8_digest_85 (by decide) rfl ?_
              refine rm_iconst (v := 0) hc dX8_digest_87 (by decide) ?_
              refine rm_istore (ls' := [(0, .ref (ad 8 9 0)), (1, .long hv3), (3, .ref (ad 0 1 0)), (4, .int 4), (5, .int (nI (j3))), (6, .ref (ad 0 2 j3)), (7, .int 0)]) hc dX8_digest_88 (by decide) rfl ?_
              refine rm_sub [0, 1, 3, 4, 5, 6, 7] rfl ?_
              have key90 : ∀ (f : Nat) (w4 : Nat) (zmw4 : Mem) (hv4 : Int64), w4 + f = 5 → E7 x zmw4 → hv4 = hsh (hv3) ((List.range w4).map fun q => lookFob x 0 j3 (nI q)) → RM p l e rm_X8_digest s m args below meth c 8 (AA ad s.heap.size) (GG D cy ad zmw4) 0 0 (QQ (Ql D cy ad (fun r y => r = dgC x mm nr nb oa ow tl ∧ E7 x y)) below args s ad) 90 [(0, .ref (ad 8 9 0)), (1, .long hv4), (3, .ref (ad 0 1 0)), (4, .int 4), (5, .int (nI (j3))), (6, .ref (ad 0 2 j3)), (7, .int (nI (w4)))] [] := by
                intro f
                induction f with
                | zero =>
                  intro w4 zmw4 hv4 hifw4 hEw4 hhw4
                  have hnw4 : w4 = 5 := by omega
                  have hdw4 : hv4 = hsh (hv3) ((List.range 5).map fun q => lookFob x 0 j3 (nI q)) := by rw [hhw4, hnw4]
                  refine rm_iload hc dX8_digest_90 rfl ?_
                  refine rm_iconst (v := 5) hc dX8_digest_92 (by decide) ?_
                  refine rm_icmp_ge (tgt := 115) hc dX8_digest_93 (by decide) (fun _ => ?_) (fun h => absurd ((nI_leI (a := 5) (b := w4) (by omega) (by omega)).mpr (by omega)) h)
                  refine rm_sub [0, 1, 3, 4, 5] rfl ?_
                  refine rm_iinc (v := (nI (j3 + 1))) (ls' := [(0, .ref (ad 8 9 0)), (1, .long hv4), (3, .ref (ad 0 1 0)), (4, .int 4), (5, .int (nI (j3 + 1)))]) hc dX8_digest_115 rfl (nIj (by omega)) (by decide) rfl ?_
                  refine rm_goto (tgt := 74) hc dX8_digest_118 (by decide) ?_
                  refine rm_sub [0, 1, 3, 4, 5] rfl ?_
                  exact ih (j3 + 1) _ _ (by omega) hEw4 (by rw [hsh_flat, ← hhj3]; exact hdw4)
                | succ f ih =>
                  intro w4 zmw4 hv4 hifw4 hEw4 hhw4
                  refine rm_iload hc dX8_digest_90 rfl ?_
                  refine rm_iconst (v := 5) hc dX8_digest_92 (by decide) ?_
                  refine rm_icmp_ge (tgt := 115) hc dX8_digest_93 (by decide) (fun h => absurd h (fun h2 => absurd ((nI_leI (a := 5) (b := w4) (by omega) (by omega)).mp h2) (by omega))) (fun _ => ?_)
                  refine rm_lload_n hc dX8_digest_96 rfl rfl ?_
                  refine rm_aload hc dX8_digest_97 rfl ?_
                  refine rm_iload hc dX8_digest_99 rfl ?_
                  refine rm_calliV (As := [.int (nI (w4))]) (rest := [.long hv4]) hc dX8_digest_101 (c_X2_look hI zmw4 (k := 0) (j := j3) (by omega) (by omega) (nI (w4))) mv_X8_165 (dm_2 (by omega) (by omega)) rfl rfl (hn := rfl) (hst := rfl) (hw := Nat.le_of_ble_eq_true rfl) (hR := ⟨⟨rfl, rfl⟩, Nat.le_of_ble_eq_true rfl, Nat.le_of_ble_eq_true rfl⟩) (hnc := ⟨Nat.zero_le _, Nat.zero_le _⟩) (fun r_33 y_33 h_33 => ?_)
                  obtain ⟨e_33, ey_33⟩ := h_33
                  obtain rfl := ey_33.symm
                  rw [hEw4.lkf] at e_33
                  refine rm_i2l hc dX8_digest_104 (fun v_34 e_34 => ?_)
                  refine rm_calllS (As := [.long hv4, .long v_34]) (rest := []) hc dX8_digest_105 (c_X8_mixed hI zmw4 hv4 v_34) ms_X8_202 (hn := rfl) (hst := rfl) (hw := Nat.le_of_ble_eq_true rfl) (hR := ⟨⟨rfl, rfl⟩, Nat.le_of_ble_eq_true rfl, Nat.le_of_ble_eq_true rfl⟩) (hnc := ⟨Nat.zero_le _, Nat.zero_le _⟩) (fun r_35 y_35 h_35 => ?_)
                  obtain ⟨e_35, ey_35⟩ := h_35
                  obtain rfl := ey_35.symm
                  refine rm_lstore_n (ls' := [(0, .ref (ad 8 9 0)), (1, .long r_35), (3, .ref (ad 0 1 0)), (4, .int 4), (5, .int (nI (j3))), (6, .ref (ad 0 2 j3)), (7, .int (nI (w4)))]) hc dX8_digest_108 rfl (by decide) rfl ?_
                  refine rm_iinc (v := (nI (w4 + 1))) (ls' := [(0, .ref (ad 8 9 0)), (1, .long r_35), (3, .ref (ad 0 1 0)), (4, .int 4), (5, .int (nI (j3))), (6, .ref (ad 0 2 j3)), (7, .int (nI (w4 + 1)))]) hc dX8_digest_109 rfl (nIj (by omega)) (by decide) rfl ?_
                  refine rm_goto (tgt := 90) hc dX8_digest_112 (by decide) ?_
                  refine rm_sub [0, 1, 3, 4, 5, 6, 7] rfl ?_
                  exact ih (w4 + 1) _ _ (by omega) hEw4 (by rw [hsh_range, ← hhw4, e_35, e_34, e_33])
              exact key90 5 0 _ _ (by omega) hEj3 hsh_m0
          exact key74 4 0 _ _ (by omega) hEi2 (hdg2.trans hsh_f0)
        | succ f ih =>
          intro i2 zmi2 hv2 hifi2 hEi2 hhi2
          refine rm_iload_n hc dX8_digest_31 rfl rfl ?_
          refine rm_iconst (v := 3) hc dX8_digest_32 (by decide) ?_
          refine rm_icmp_ge (tgt := 59) hc dX8_digest_33 (by decide) (fun h => absurd h (fun h2 => absurd ((nI_leI (a := 3) (b := i2) (by omega) (by omega)).mp h2) (by omega))) (fun _ => ?_)
          refine rm_lload_n hc dX8_digest_36 rfl rfl ?_
          refine rm_aload_n hc dX8_digest_37 rfl rfl ?_
          refine rm_get hc dX8_digest_38 fl_X8_10 dm_9 rfl rfl ?_
          refine rm_get hc dX8_digest_41 fl_X8_129 (dm_0 (by omega)) rfl rfl ?_
          refine rm_iload_n hc dX8_digest_44 rfl rfl ?_
          refine rm_calliV (As := [.int (nI (i2))]) (rest := [.long hv2]) hc dX8_digest_45 (c_X4_value hI zmi2 (k := 0) (by omega) (nI (i2))) mv_X8_133 (dm_8 (by omega)) rfl rfl (hn := rfl) (hst := rfl) (hw := Nat.le_of_ble_eq_true rfl) (hR := ⟨⟨rfl, rfl⟩, Nat.le_of_ble_eq_true rfl, Nat.le_of_ble_eq_true rfl⟩) (hnc := ⟨Nat.zero_le _, Nat.zero_le _⟩) (fun r_37 y_37 h_37 => ?_)
          obtain ⟨e_37, ey_37⟩ := h_37
          obtain rfl := ey_37.symm
          rw [hEi2.val] at e_37
          refine rm_i2l hc dX8_digest_48 (fun v_38 e_38 => ?_)
          refine rm_calllS (As := [.long hv2, .long v_38]) (rest := []) hc dX8_digest_49 (c_X8_mixed hI zmi2 hv2 v_38) ms_X8_202 (hn := rfl) (hst := rfl) (hw := Nat.le_of_ble_eq_true rfl) (hR := ⟨⟨rfl, rfl⟩, Nat.le_of_ble_eq_true rfl, Nat.le_of_ble_eq_true rfl⟩) (hnc := ⟨Nat.zero_le _, Nat.zero_le _⟩) (fun r_39 y_39 h_39 => ?_)
          obtain ⟨e_39, ey_39⟩ := h_39
          obtain rfl := ey_39.symm
          refine rm_lstore_n (ls' := [(0, .ref (ad 8 9 0)), (1, .long r_39), (3, .int (nI (i2)))]) hc dX8_digest_52 rfl (by decide) rfl ?_
          refine rm_iinc (v := (nI (i2 + 1))) (ls' := [(0, .ref (ad 8 9 0)), (1, .long r_39), (3, .int (nI (i2 + 1)))]) hc dX8_digest_53 rfl (nIj (by omega)) (by decide) rfl ?_
          refine rm_goto (tgt := 31) hc dX8_digest_56 (by decide) ?_
          refine rm_sub [0, 1, 3] rfl ?_
          exact ih (i2 + 1) _ _ (by omega) hEi2 (by rw [hsh_range, ← hhi2, e_39, e_38, e_37])
      exact key31 3 0 _ _ (by omega) hEi1 (hdg1.trans hsh_m0)
    | succ f ih =>
      intro i1 zmi1 hv1 hifi1 hEi1 hhi1
      refine rm_iload_n hc dX8_digest_6 rfl rfl ?_
      refine rm_bipush (v := 8) hc dX8_digest_7 (by decide) ?_
      refine rm_icmp_ge (tgt := 29) hc dX8_digest_9 (by decide) (fun h => absurd h (fun h2 => absurd ((nI_leI (a := 8) (b := i1) (by omega) (by omega)).mp h2) (by omega))) (fun _ => ?_)
      refine rm_lload_n hc dX8_digest_12 rfl rfl ?_
      refine rm_aload_n hc dX8_digest_13 rfl rfl ?_
      refine rm_iload_n hc dX8_digest_14 rfl rfl ?_
      refine rm_calliV (As := [.int (nI (i1))]) (rest := [.long hv1]) hc dX8_digest_15 (c_X8_counted hI zmi1 (nI (i1))) mv_X8_175 dm_9 rfl rfl (hn := rfl) (hst := rfl) (hw := Nat.le_of_ble_eq_true rfl) (hR := ⟨⟨rfl, rfl⟩, Nat.le_of_ble_eq_true rfl, Nat.le_of_ble_eq_true rfl⟩) (hnc := ⟨Nat.zero_le _, Nat.zero_le _⟩) (fun r_41 y_41 h_41 => ?_)
      obtain ⟨e_41, ey_41⟩ := h_41
      obtain rfl := ey_41.symm
      rw [hEi1.cnt] at e_41
      refine rm_i2l hc dX8_digest_18 (fun v_42 e_42 => ?_)
      refine rm_calllS (As := [.long hv1, .long v_42]) (rest := []) hc dX8_digest_19 (c_X8_mixed hI zmi1 hv1 v_42) ms_X8_202 (hn := rfl) (hst := rfl) (hw := Nat.le_of_ble_eq_true rfl) (hR := ⟨⟨rfl, rfl⟩, Nat.le_of_ble_eq_true rfl, Nat.le_of_ble_eq_true rfl⟩) (hnc := ⟨Nat.zero_le _, Nat.zero_le _⟩) (fun r_43 y_43 h_43 => ?_)
      obtain ⟨e_43, ey_43⟩ := h_43
      obtain rfl := ey_43.symm
      refine rm_lstore_n (ls' := [(0, .ref (ad 8 9 0)), (1, .long r_43), (3, .int (nI (i1)))]) hc dX8_digest_22 rfl (by decide) rfl ?_
      refine rm_iinc (v := (nI (i1 + 1))) (ls' := [(0, .ref (ad 8 9 0)), (1, .long r_43), (3, .int (nI (i1 + 1)))]) hc dX8_digest_23 rfl (nIj (by omega)) (by decide) rfl ?_
      refine rm_goto (tgt := 6) hc dX8_digest_26 (by decide) ?_
      refine rm_sub [0, 1, 3] rfl ?_
      exact ih (i1 + 1) _ _ (by omega) hEi1 (by rw [hsh_range, ← hhi1, e_43, e_42, e_41])
  exact key6 8 0 _ _ (by omega) (E7.rf x) hsh_m0
