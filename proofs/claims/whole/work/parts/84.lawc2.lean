/-! ===== the law, call by call: 2 ===== -/
section LAWC
variable {p : Program} {l : Launch} {e : Env} {s : State} {m : MethodId} {args : Array Value} {below : List Frame} {meth : Method} {c : Code} {D : va_G} {cy : Nat → ClassId} {ad : Ads} {nc ns : Nat} {Q : State → Prop} {x : Mem} {b L : Nat} {xs : Nat → Int32}
theorem law_append (h : LW p s m args meth c D cy ad l b L xs) {B t : Nat} (hi : INV x x B) (ht : 4 * t + 4 ≤ L) (hnc : nc + 1 ≤ room_1.cells ∧ ns + 6 ≤ room_1.slots) (kk : ∀ x' : Mem, INV x' x' (B + 60) → RM p l e room_1 s m args below meth c 9 (AA ad s.heap.size) (GG D cy ad x') (nc + 1) (ns + 6) Q 1637 (l5 ad b t) []) : RM p l e room_1 s m args below meth c 9 (AA ad s.heap.size) (GG D cy ad x) nc ns Q 768 (l5 ad b t) [] := by
  have h' := h
  obtain ⟨hc, hX, hfl, hsc, hbl, hbA, hL⟩ := h'
  have hI : IJ ad := hc.2.2.2.2.1
  obtain ⟨P1, hw, hm⟩ := pr_append (l := l) (D := D) (cy := cy) hI hfl hi (xs (4 * t + 1))
  refine rm_aload_n hc dL_law_768 rfl rfl ?_
  refine law_arg h (j := 1) dL_law_769 dL_law_770 dL_law_772 dL_law_773 dL_law_774 (by decide) rfl rfl (by omega) ht ?_
  refine rm_aload_n hc dL_law_775 rfl rfl ?_
  refine rm_callW (As := [.ref (ad 8 9 0), .int (xs (4 * t + 1)), .ref (ad 16 19 0)]) (rest := []) hc hX dL_law_776 hw mw_L_124 rfl rfl (Nat.le_of_ble_eq_true rfl) ⟨⟨rfl, rfl⟩, Nat.le_of_ble_eq_true rfl, Nat.le_of_ble_eq_true rfl⟩ hnc (fun k y1 hk => ?_)
  obtain ⟨P2, hm1, hm2⟩ := hm k y1 hk
  refine rm_istore (ls' := l6 ad b t k) hc dL_law_779 (by omega) rfl ?_
  refine rm_aload_n hc dL_law_781 rfl rfl ?_
  refine law_arg h (j := 1) dL_law_782 dL_law_783 dL_law_785 dL_law_786 dL_law_787 (by decide) rfl rfl (by omega) ht ?_
  refine rm_calliV (As := [.int (xs (4 * t + 1))]) (rest := []) hc dL_law_788 hm1 mv_L_126 dm_14 rfl rfl (hn := rfl) (hst := rfl) (hw := Nat.le_of_ble_eq_true rfl) (hR := ⟨⟨rfl, rfl⟩, Nat.le_of_ble_eq_true rfl, Nat.le_of_ble_eq_true rfl⟩) (hnc := hnc) (fun bb y2 hb => ?_)
  obtain ⟨h1, h2, h3⟩ := hm2 bb y2 hb
  exact law_tail h h1 h2 dL_law_791 dL_law_793 dL_law_794 dL_law_797 dL_law_799 dL_law_804 dL_law_806 dL_law_809 dL_law_810 dL_law_811 dL_law_812 dL_law_814 dL_law_815 dL_law_816 dL_law_821 (by decide) hnc (kk y2 h3)
theorem law_clearBuffer (h : LW p s m args meth c D cy ad l b L xs) {B t : Nat} (hi : INV x x B) (ht : 4 * t + 4 ≤ L) (hnc : nc + 1 ≤ room_1.cells ∧ ns + 6 ≤ room_1.slots) (kk : ∀ x' : Mem, INV x' x' (B + 60) → RM p l e room_1 s m args below meth c 9 (AA ad s.heap.size) (GG D cy ad x') (nc + 1) (ns + 6) Q 1637 (l5 ad b t) []) : RM p l e room_1 s m args below meth c 9 (AA ad s.heap.size) (GG D cy ad x) nc ns Q 824 (l5 ad b t) [] := by
  have h' := h
  obtain ⟨hc, hX, hfl, hsc, hbl, hbA, hL⟩ := h'
  have hI : IJ ad := hc.2.2.2.2.1
  obtain ⟨P1, h1, h2⟩ := pq_clear (l := l) (D := D) (cy := cy) hI hi
  refine rm_aload_n hc dL_law_824 rfl rfl ?_
  refine rm_calliV (As := []) (rest := []) hc dL_law_825 h1 mv_L_127 dm_9 rfl rfl (hn := rfl) (hst := rfl) (hw := Nat.le_of_ble_eq_true rfl) (hR := ⟨⟨rfl, rfl⟩, Nat.le_of_ble_eq_true rfl, Nat.le_of_ble_eq_true rfl⟩) (hnc := ⟨by omega, by omega⟩) (fun aa y1 ha => ?_)
  obtain ⟨P2, h3, h4⟩ := h2 aa y1 ha
  refine rm_aload_n hc dL_law_828 rfl rfl ?_
  refine rm_calliV (As := []) (rest := [.int aa]) hc dL_law_829 h3 mv_L_130 dm_14 rfl rfl (hn := rfl) (hst := rfl) (hw := Nat.le_of_ble_eq_true rfl) (hR := ⟨⟨rfl, rfl⟩, Nat.le_of_ble_eq_true rfl, Nat.le_of_ble_eq_true rfl⟩) (hnc := ⟨by omega, by omega⟩) (fun bb y2 hb => ?_)
  obtain ⟨e1, e2⟩ := h4 bb y2 hb
  exact rm_icmp_eq (tgt := 1637) hc dL_law_832 (by decide) (fun _ => rm_wid (by omega) (by omega) (kk y2 e2)) (fun q => absurd e1.symm q)
theorem law_firstError (h : LW p s m args meth c D cy ad l b L xs) {B t : Nat} (hi : INV x x B) (ht : 4 * t + 4 ≤ L) (hnc : nc + 1 ≤ room_1.cells ∧ ns + 6 ≤ room_1.slots) (kk : ∀ x' : Mem, INV x' x' (B + 60) → RM p l e room_1 s m args below meth c 9 (AA ad s.heap.size) (GG D cy ad x') (nc + 1) (ns + 6) Q 1637 (l5 ad b t) []) : RM p l e room_1 s m args below meth c 9 (AA ad s.heap.size) (GG D cy ad x) nc ns Q 837 (l5 ad b t) [] := by
  have h' := h
  obtain ⟨hc, hX, hfl, hsc, hbl, hbA, hL⟩ := h'
  have hI : IJ ad := hc.2.2.2.2.1
  obtain ⟨P1, h1, h2⟩ := pq_first (l := l) (D := D) (cy := cy) hI hi
  refine rm_aload_n hc dL_law_837 rfl rfl ?_
  refine rm_calliV (As := []) (rest := []) hc dL_law_838 h1 mv_L_131 dm_9 rfl rfl (hn := rfl) (hst := rfl) (hw := Nat.le_of_ble_eq_true rfl) (hR := ⟨⟨rfl, rfl⟩, Nat.le_of_ble_eq_true rfl, Nat.le_of_ble_eq_true rfl⟩) (hnc := ⟨by omega, by omega⟩) (fun aa y1 ha => ?_)
  obtain ⟨P2, h3, h4⟩ := h2 aa y1 ha
  refine rm_aload_n hc dL_law_841 rfl rfl ?_
  refine rm_calliV (As := []) (rest := [.int aa]) hc dL_law_842 h3 mv_L_134 dm_14 rfl rfl (hn := rfl) (hst := rfl) (hw := Nat.le_of_ble_eq_true rfl) (hR := ⟨⟨rfl, rfl⟩, Nat.le_of_ble_eq_true rfl, Nat.le_of_ble_eq_true rfl⟩) (hnc := ⟨by omega, by omega⟩) (fun bb y2 hb => ?_)
  obtain ⟨e1, e2⟩ := h4 bb y2 hb
  exact rm_icmp_eq (tgt := 1637) hc dL_law_845 (by decide) (fun _ => rm_wid (by omega) (by omega) (kk y2 e2)) (fun q => absurd e1.symm q)
theorem law_play (h : LW p s m args meth c D cy ad l b L xs) {B t : Nat} (hi : INV x x B) (hB : 3 * B < 2 ^ 20) (ht : 4 * t + 4 ≤ L) (hnc : nc + 1 ≤ room_1.cells ∧ ns + 6 ≤ room_1.slots) (kk : ∀ x' : Mem, INV x' x' (B + 60) → RM p l e room_1 s m args below meth c 9 (AA ad s.heap.size) (GG D cy ad x') (nc + 1) (ns + 6) Q 1637 (l5 ad b t) []) : RM p l e room_1 s m args below meth c 9 (AA ad s.heap.size) (GG D cy ad x) nc ns Q 850 (l5 ad b t) [] := by
  have h' := h
  obtain ⟨hc, hX, hfl, hsc, hbl, hbA, hL⟩ := h'
  have hI : IJ ad := hc.2.2.2.2.1
  obtain ⟨P1, hw, hm⟩ := pr_play (l := l) (D := D) (cy := cy) hI hfl hi hB
  refine rm_aload_n hc dL_law_850 rfl rfl ?_
  refine rm_aload_n hc dL_law_851 rfl rfl ?_
  refine rm_callW (As := [.ref (ad 8 9 0), .ref (ad 16 19 0)]) (rest := []) hc hX dL_law_852 hw mw_L_135 rfl rfl (Nat.le_of_ble_eq_true rfl) ⟨⟨rfl, rfl⟩, Nat.le_of_ble_eq_true rfl, Nat.le_of_ble_eq_true rfl⟩ hnc (fun k y1 hk => ?_)
  obtain ⟨P2, hm1, hm2⟩ := hm k y1 hk
  refine rm_istore (ls' := l6 ad b t k) hc dL_law_855 (by omega) rfl ?_
  refine rm_aload_n hc dL_law_857 rfl rfl ?_
  refine rm_calliV (As := []) (rest := []) hc dL_law_858 hm1 mv_L_138 dm_14 rfl rfl (hn := rfl) (hst := rfl) (hw := Nat.le_of_ble_eq_true rfl) (hR := ⟨⟨rfl, rfl⟩, Nat.le_of_ble_eq_true rfl, Nat.le_of_ble_eq_true rfl⟩) (hnc := hnc) (fun bb y2 hb => ?_)
  obtain ⟨h1, h2, h3⟩ := hm2 bb y2 hb
  exact law_tail h h1 h2 dL_law_861 dL_law_863 dL_law_864 dL_law_867 dL_law_869 dL_law_874 dL_law_876 dL_law_879 dL_law_880 dL_law_881 dL_law_882 dL_law_884 dL_law_885 dL_law_886 dL_law_891 (by decide) hnc (kk y2 h3)
theorem law_undo (h : LW p s m args meth c D cy ad l b L xs) {B t : Nat} (hi : INV x x B) (hB : 3 * B < 2 ^ 20) (ht : 4 * t + 4 ≤ L) (hnc : nc + 1 ≤ room_1.cells ∧ ns + 6 ≤ room_1.slots) (kk : ∀ x' : Mem, INV x' x' (B + 60) → RM p l e room_1 s m args below meth c 9 (AA ad s.heap.size) (GG D cy ad x') (nc + 1) (ns + 6) Q 1637 (l5 ad b t) []) : RM p l e room_1 s m args below meth c 9 (AA ad s.heap.size) (GG D cy ad x) nc ns Q 894 (l5 ad b t) [] := by
  have h' := h
  obtain ⟨hc, hX, hfl, hsc, hbl, hbA, hL⟩ := h'
  have hI : IJ ad := hc.2.2.2.2.1
  obtain ⟨P1, hw, hm⟩ := pr_undo (l := l) (D := D) (cy := cy) hI hfl hi hB
  refine rm_aload_n hc dL_law_894 rfl rfl ?_
  refine rm_aload_n hc dL_law_895 rfl rfl ?_
  refine rm_callW (As := [.ref (ad 8 9 0), .ref (ad 16 19 0)]) (rest := []) hc hX dL_law_896 hw mw_L_139 rfl rfl (Nat.le_of_ble_eq_true rfl) ⟨⟨rfl, rfl⟩, Nat.le_of_ble_eq_true rfl, Nat.le_of_ble_eq_true rfl⟩ hnc (fun k y1 hk => ?_)
  obtain ⟨P2, hm1, hm2⟩ := hm k y1 hk
  refine rm_istore (ls' := l6 ad b t k) hc dL_law_899 (by omega) rfl ?_
  refine rm_aload_n hc dL_law_901 rfl rfl ?_
  refine rm_calliV (As := []) (rest := []) hc dL_law_902 hm1 mv_L_141 dm_14 rfl rfl (hn := rfl) (hst := rfl) (hw := Nat.le_of_ble_eq_true rfl) (hR := ⟨⟨rfl, rfl⟩, Nat.le_of_ble_eq_true rfl, Nat.le_of_ble_eq_true rfl⟩) (hnc := hnc) (fun bb y2 hb => ?_)
  obtain ⟨h1, h2, h3⟩ := hm2 bb y2 hb
  exact law_tail h h1 h2 dL_law_905 dL_law_907 dL_law_908 dL_law_911 dL_law_913 dL_law_918 dL_law_920 dL_law_923 dL_law_924 dL_law_925 dL_law_926 dL_law_928 dL_law_929 dL_law_930 dL_law_935 (by decide) hnc (kk y2 h3)
theorem law_fob (h : LW p s m args meth c D cy ad l b L xs) {B t : Nat} (hi : INV x x B) (ht : 4 * t + 4 ≤ L) (hnc : nc + 1 ≤ room_1.cells ∧ ns + 6 ≤ room_1.slots) (kk : ∀ x' : Mem, INV x' x' (B + 60) → RM p l e room_1 s m args below meth c 9 (AA ad s.heap.size) (GG D cy ad x') (nc + 1) (ns + 6) Q 1637 (l5 ad b t) []) : RM p l e room_1 s m args below meth c 9 (AA ad s.heap.size) (GG D cy ad x) nc ns Q 938 (l5 ad b t) [] := by
  have h' := h
  obtain ⟨hc, hX, hfl, hsc, hbl, hbA, hL⟩ := h'
  have hI : IJ ad := hc.2.2.2.2.1
  obtain ⟨P1, hw, hm⟩ := pr_fob (l := l) (D := D) (cy := cy) hI hfl hi (xs (4 * t + 1)) (xs (4 * t + 2))
  refine rm_aload_n hc dL_law_938 rfl rfl ?_
  refine law_arg h (j := 1) dL_law_939 dL_law_940 dL_law_942 dL_law_943 dL_law_944 (by decide) rfl rfl (by omega) ht ?_
  refine law_arg h (j := 2) dL_law_945 dL_law_946 dL_law_948 dL_law_949 dL_law_950 (by decide) rfl rfl (by omega) ht ?_
  refine rm_aload_n hc dL_law_951 rfl rfl ?_
  refine rm_callW (As := [.ref (ad 8 9 0), .int (xs (4 * t + 1)), .int (xs (4 * t + 2)), .ref (ad 16 19 0)]) (rest := []) hc hX dL_law_952 hw mw_L_142 rfl rfl (Nat.le_of_ble_eq_true rfl) ⟨⟨rfl, rfl⟩, Nat.le_of_ble_eq_true rfl, Nat.le_of_ble_eq_true rfl⟩ hnc (fun k y1 hk => ?_)
  obtain ⟨P2, hm1, hm2⟩ := hm k y1 hk
  refine rm_istore (ls' := l6 ad b t k) hc dL_law_955 (by omega) rfl ?_
  refine rm_aload_n hc dL_law_957 rfl rfl ?_
  refine law_arg h (j := 1) dL_law_958 dL_law_959 dL_law_961 dL_law_962 dL_law_963 (by decide) rfl rfl (by omega) ht ?_
  refine law_arg h (j := 2) dL_law_964 dL_law_965 dL_law_967 dL_law_968 dL_law_969 (by decide) rfl rfl (by omega) ht ?_
  refine rm_calliV (As := [.int (xs (4 * t + 1)), .int (xs (4 * t + 2))]) (rest := []) hc dL_law_970 hm1 mv_L_144 dm_14 rfl rfl (hn := rfl) (hst := rfl) (hw := Nat.le_of_ble_eq_true rfl) (hR := ⟨⟨rfl, rfl⟩, Nat.le_of_ble_eq_true rfl, Nat.le_of_ble_eq_true rfl⟩) (hnc := hnc) (fun bb y2 hb => ?_)
  obtain ⟨h1, h2, h3⟩ := hm2 bb y2 hb
  exact law_tail h h1 h2 dL_law_973 dL_law_975 dL_law_976 dL_law_979 dL_law_981 dL_law_986 dL_law_988 dL_law_991 dL_law_992 dL_law_993 dL_law_994 dL_law_996 dL_law_997 dL_law_998 dL_law_1003 (by decide) hnc (kk y2 h3)
theorem law_slot (h : LW p s m args meth c D cy ad l b L xs) {B t : Nat} (hi : INV x x B) (ht : 4 * t + 4 ≤ L) (hnc : nc + 1 ≤ room_1.cells ∧ ns + 6 ≤ room_1.slots) (kk : ∀ x' : Mem, INV x' x' (B + 60) → RM p l e room_1 s m args below meth c 9 (AA ad s.heap.size) (GG D cy ad x') (nc + 1) (ns + 6) Q 1637 (l5 ad b t) []) : RM p l e room_1 s m args below meth c 9 (AA ad s.heap.size) (GG D cy ad x) nc ns Q 1006 (l5 ad b t) [] := by
  have h' := h
  obtain ⟨hc, hX, hfl, hsc, hbl, hbA, hL⟩ := h'
  have hI : IJ ad := hc.2.2.2.2.1
  obtain ⟨P1, hw, hm⟩ := pr_slot (l := l) (D := D) (cy := cy) hI hfl hi (xs (4 * t + 1)) (xs (4 * t + 2)) (xs (4 * t + 3))
  refine rm_aload_n hc dL_law_1006 rfl rfl ?_
  refine law_arg h (j := 1) dL_law_1007 dL_law_1008 dL_law_1010 dL_law_1011 dL_law_1012 (by decide) rfl rfl (by omega) ht ?_
  refine law_arg h (j := 2) dL_law_1013 dL_law_1014 dL_law_1016 dL_law_1017 dL_law_1018 (by decide) rfl rfl (by omega) ht ?_
  refine law_arg h (j := 3) dL_law_1019 dL_law_1020 dL_law_1022 dL_law_1023 dL_law_1024 (by decide) rfl rfl (by omega) ht ?_
  refine rm_aload_n hc dL_law_1025 rfl rfl ?_
  refine rm_callW (As := [.ref (ad 8 9 0), .int (xs (4 * t + 1)), .int (xs (4 * t + 2)), .int (xs (4 * t + 3)), .ref (ad 16 19 0)]) (rest := []) hc hX dL_law_1026 hw mw_L_145 rfl rfl (Nat.le_of_ble_eq_true rfl) ⟨⟨rfl, rfl⟩, Nat.le_of_ble_eq_true rfl, Nat.le_of_ble_eq_true rfl⟩ hnc (fun k y1 hk => ?_)
  obtain ⟨P2, hm1, hm2⟩ := hm k y1 hk
  refine rm_istore (ls' := l6 ad b t k) hc dL_law_1029 (by omega) rfl ?_
  refine rm_aload_n hc dL_law_1031 rfl rfl ?_
  refine law_arg h (j := 1) dL_law_1032 dL_law_1033 dL_law_1035 dL_law_1036 dL_law_1037 (by decide) rfl rfl (by omega) ht ?_
  refine law_arg h (j := 2) dL_law_1038 dL_law_1039 dL_law_1041 dL_law_1042 dL_law_1043 (by decide) rfl rfl (by omega) ht ?_
  refine law_arg h (j := 3) dL_law_1044 dL_law_1045 dL_law_1047 dL_law_1048 dL_law_1049 (by decide) rfl rfl (by omega) ht ?_
  refine rm_calliV (As := [.int (xs (4 * t + 1)), .int (xs (4 * t + 2)), .int (xs (4 * t + 3))]) (rest := []) hc dL_law_1050 hm1 mv_L_147 dm_14 rfl rfl (hn := rfl) (hst := rfl) (hw := Nat.le_of_ble_eq_true rfl) (hR := ⟨⟨rfl, rfl⟩, Nat.le_of_ble_eq_true rfl, Nat.le_of_ble_eq_true rfl⟩) (hnc := hnc) (fun bb y2 hb => ?_)
  obtain ⟨h1, h2, h3⟩ := hm2 bb y2 hb
  exact law_tail h h1 h2 dL_law_1053 dL_law_1055 dL_law_1056 dL_law_1059 dL_law_1061 dL_law_1066 dL_law_1068 dL_law_1071 dL_law_1072 dL_law_1073 dL_law_1074 dL_law_1076 dL_law_1077 dL_law_1078 dL_law_1083 (by decide) hnc (kk y2 h3)
theorem law_door (h : LW p s m args meth c D cy ad l b L xs) {B t : Nat} (hi : INV x x B) (ht : 4 * t + 4 ≤ L) (hnc : nc + 1 ≤ room_1.cells ∧ ns + 6 ≤ room_1.slots) (kk : ∀ x' : Mem, INV x' x' (B + 60) → RM p l e room_1 s m args below meth c 9 (AA ad s.heap.size) (GG D cy ad x') (nc + 1) (ns + 6) Q 1637 (l5 ad b t) []) : RM p l e room_1 s m args below meth c 9 (AA ad s.heap.size) (GG D cy ad x) nc ns Q 1086 (l5 ad b t) [] := by
  have h' := h
  obtain ⟨hc, hX, hfl, hsc, hbl, hbA, hL⟩ := h'
  have hI : IJ ad := hc.2.2.2.2.1
  obtain ⟨P1, hw, hm⟩ := pr_door (l := l) (D := D) (cy := cy) hI hfl hi (xs (4 * t + 1)) (xs (4 * t + 2))
  refine rm_aload_n hc dL_law_1086 rfl rfl ?_
  refine law_arg h (j := 1) dL_law_1087 dL_law_1088 dL_law_1090 dL_law_1091 dL_law_1092 (by decide) rfl rfl (by omega) ht ?_
  refine law_arg h (j := 2) dL_law_1093 dL_law_1094 dL_law_1096 dL_law_1097 dL_law_1098 (by decide) rfl rfl (by omega) ht ?_
  refine rm_aload_n hc dL_law_1099 rfl rfl ?_
  refine rm_callW (As := [.ref (ad 8 9 0), .int (xs (4 * t + 1)), .int (xs (4 * t + 2)), .ref (ad 16 19 0)]) (rest := []) hc hX dL_law_1100 hw mw_L_148 rfl rfl (Nat.le_of_ble_eq_true rfl) ⟨⟨rfl, rfl⟩, Nat.le_of_ble_eq_true rfl, Nat.le_of_ble_eq_true rfl⟩ hnc (fun k y1 hk => ?_)
  obtain ⟨P2, hm1, hm2⟩ := hm k y1 hk
  refine rm_istore (ls' := l6 ad b t k) hc dL_law_1103 (by omega) rfl ?_
  refine rm_aload_n hc dL_law_1105 rfl rfl ?_
  refine law_arg h (j := 1) dL_law_1106 dL_law_1107 dL_law_1109 dL_law_1110 dL_law_1111 (by decide) rfl rfl (by omega) ht ?_
  refine law_arg h (j := 2) dL_law_1112 dL_law_1113 dL_law_1115 dL_law_1116 dL_law_1117 (by decide) rfl rfl (by omega) ht ?_
  refine rm_calliV (As := [.int (xs (4 * t + 1)), .int (xs (4 * t + 2))]) (rest := []) hc dL_law_1118 hm1 mv_L_150 dm_14 rfl rfl (hn := rfl) (hst := rfl) (hw := Nat.le_of_ble_eq_true rfl) (hR := ⟨⟨rfl, rfl⟩, Nat.le_of_ble_eq_true rfl, Nat.le_of_ble_eq_true rfl⟩) (hnc := hnc) (fun bb y2 hb => ?_)
  obtain ⟨h1, h2, h3⟩ := hm2 bb y2 hb
  exact law_tail h h1 h2 dL_law_1121 dL_law_1123 dL_law_1124 dL_law_1127 dL_law_1129 dL_law_1134 dL_law_1136 dL_law_1139 dL_law_1140 dL_law_1141 dL_law_1142 dL_law_1144 dL_law_1145 dL_law_1146 dL_law_1151 (by decide) hnc (kk y2 h3)
theorem law_air (h : LW p s m args meth c D cy ad l b L xs) {B t : Nat} (hi : INV x x B) (ht : 4 * t + 4 ≤ L) (hnc : nc + 1 ≤ room_1.cells ∧ ns + 6 ≤ room_1.slots) (kk : ∀ x' : Mem, INV x' x' (B + 60) → RM p l e room_1 s m args below meth c 9 (AA ad s.heap.size) (GG D cy ad x') (nc + 1) (ns + 6) Q 1637 (l5 ad b t) []) : RM p l e room_1 s m args below meth c 9 (AA ad s.heap.size) (GG D cy ad x) nc ns Q 1154 (l5 ad b t) [] := by
  have h' := h
  obtain ⟨hc, hX, hfl, hsc, hbl, hbA, hL⟩ := h'
  have hI : IJ ad := hc.2.2.2.2.1
  obtain ⟨P1, hw, hm⟩ := pr_air (l := l) (D := D) (cy := cy) hI hfl hi (xs (4 * t + 1))
  refine rm_aload_n hc dL_law_1154 rfl rfl ?_
  refine law_arg h (j := 1) dL_law_1155 dL_law_1156 dL_law_1158 dL_law_1159 dL_law_1160 (by decide) rfl rfl (by omega) ht ?_
  refine rm_aload_n hc dL_law_1161 rfl rfl ?_
  refine rm_callW (As := [.ref (ad 8 9 0), .int (xs (4 * t + 1)), .ref (ad 16 19 0)]) (rest := []) hc hX dL_law_1162 hw mw_L_151 rfl rfl (Nat.le_of_ble_eq_true rfl) ⟨⟨rfl, rfl⟩, Nat.le_of_ble_eq_true rfl, Nat.le_of_ble_eq_true rfl⟩ hnc (fun k y1 hk => ?_)
  obtain ⟨P2, hm1, hm2⟩ := hm k y1 hk
  refine rm_istore (ls' := l6 ad b t k) hc dL_law_1165 (by omega) rfl ?_
  refine rm_aload_n hc dL_law_1167 rfl rfl ?_
  refine law_arg h (j := 1) dL_law_1168 dL_law_1169 dL_law_1171 dL_law_1172 dL_law_1173 (by decide) rfl rfl (by omega) ht ?_
  refine rm_calliV (As := [.int (xs (4 * t + 1))]) (rest := []) hc dL_law_1174 hm1 mv_L_153 dm_14 rfl rfl (hn := rfl) (hst := rfl) (hw := Nat.le_of_ble_eq_true rfl) (hR := ⟨⟨rfl, rfl⟩, Nat.le_of_ble_eq_true rfl, Nat.le_of_ble_eq_true rfl⟩) (hnc := hnc) (fun bb y2 hb => ?_)
  obtain ⟨h1, h2, h3⟩ := hm2 bb y2 hb
  exact law_tail h h1 h2 dL_law_1177 dL_law_1179 dL_law_1180 dL_law_1183 dL_law_1185 dL_law_1190 dL_law_1192 dL_law_1195 dL_law_1196 dL_law_1197 dL_law_1198 dL_law_1200 dL_law_1201 dL_law_1202 dL_law_1207 (by decide) hnc (kk y2 h3)
end LAWC
