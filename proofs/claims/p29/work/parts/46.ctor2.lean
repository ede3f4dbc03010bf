/-! ===== constructors ===== -/
def stI (n : Nat) : Int32 := if n < 3 then (if n = 0 then 16 else if n = 1 then 100 else 8) else if n < 14 then 0 else if n < 30 then (if (n - 14) % 4 = 0 then nI ((n - 14) / 4) else if (n - 14) % 4 = 2 then 100 else 0) else if (n - 30) % 22 < 6 then 0 else if ((n - 30) % 22 - 6) % 4 = 0 then 0 else -1
def AIR : Nat → Int32 := fun i => if i < 8 then stI (6 + i) else 0
theorem air0 : AIR = fun _ => 0 := by
  funext i
  unfold AIR
  by_cases h : i < 8
  · rw [if_pos h]
    unfold stI
    rw [if_neg (by omega), if_pos (by omega)]
  · rw [if_neg h]
theorem pcons {D : va_G} {cl : List vw_C} {q q' : Nat × va_E} {ws ws' : va_W} (h1 : ∀ H, va_at D cl q H → va_at D cl q' H) (h2 : ∀ H, va_P D cl ws H → va_P D cl ws' H) : ∀ H, va_P D cl (q :: ws) H → va_P D cl (q' :: ws') H := fun H h k z hk => by
  cases k with
  | zero =>
    obtain rfl : q' = z := Option.some.inj hk
    exact h1 H (h 0 q rfl)
  | succ k => exact h2 H (fun k z hk => h (k + 1) z hk) k z hk
theorem arrV_cg {cA : ClassId} {n : Nat} {f g : Nat → Value} (h : ∀ i, i < n → f i = g i) : arrV cA n f = arrV cA n g := by
  unfold arrV
  congr 1
  congr 1
  funext i
  exact h i.val i.isLt
theorem parr {D : va_G} {cl : List vw_C} {a n : Nat} {cA : ClassId} {f g : Nat → Option Nat} (h : ∀ i, i < n → f i = g i) : ∀ H, va_at D cl (a, .inl (cA, n, .inr (.inr (.inr (.inr f))))) H → va_at D cl (a, .inl (cA, n, .inr (.inr (.inr (.inr g))))) H := fun H hh => by
  have e : vp_cell cA (n, .inr (.inr (.inr (.inr f)))) = vp_cell cA (n, .inr (.inr (.inr (.inr g)))) := arrV_cg (f := fun j => va_rf (f j)) (g := fun j => va_rf (g j)) fun i hi => by rw [h i hi]
  exact Eq.trans hh (congrArg some e)
theorem pint {D : va_G} {cl : List vw_C} {a n : Nat} {cA : ClassId} {f g : Nat → Int32} (h : ∀ i, i < n → f i = g i) : ∀ H, va_at D cl (a, .inl (cA, n, .inl f)) H → va_at D cl (a, .inl (cA, n, .inl g)) H := fun H hh => by
  have e : vp_cell cA (n, .inl f) = vp_cell cA (n, .inl g) := arrV_cg (f := fun j => .int (f j)) (g := fun j => .int (g j)) fun i hi => by rw [h i hi]
  exact Eq.trans hh (congrArg some e)
theorem dmap {A : Nat → Prop} {ws ws' : va_W} (h : va_D A ws) (e : ws'.map Prod.fst = ws.map Prod.fst) : va_D A ws' := by
  have key : ∀ (k : Nat) (q : Nat × va_E), ws'[k]? = some q → ∃ q2, ws[k]? = some q2 ∧ q2.1 = q.1 := fun k q hk => by
    have h1 : (ws'.map Prod.fst)[k]? = some q.1 := by rw [List.getElem?_map, hk]; rfl
    rw [e, List.getElem?_map] at h1
    cases h2 : ws[k]? with
    | none => rw [h2] at h1; cases h1
    | some q2 => rw [h2] at h1; exact ⟨q2, rfl, Option.some.inj h1⟩
  refine ⟨fun i j p0 q0 hp hq hpq => ?_, fun k q hk => ?_⟩
  · obtain ⟨p2, a1, a2⟩ := key i p0 hp
    obtain ⟨q2, b1, b2⟩ := key j q0 hq
    exact h.1 i j p2 q2 a1 b1 (by rw [a2, b2, hpq])
  · obtain ⟨q2, b1, b2⟩ := key k q hk
    rw [← b2]
    exact h.2 k q2 b1
theorem ob_X5 : Cond.methodLink RX5 3 Lib.objectInit ∈ TB := tbm (i := 80) (by decide +kernel) (by decide +kernel)
theorem fq_5_1 : ∀ q : vw_C, vwCl[5]? = some q → (q.2.1 1).2.2.2 = false ∧ parseFieldDescriptor (q.2.1 1).2.2.1 = some .int := fun q hq => by
  obtain rfl := Option.some.inj hq
  exact ⟨rfl, by decide +kernel⟩
theorem fq_5_2 : ∀ q : vw_C, vwCl[5]? = some q → (q.2.1 2).2.2.2 = false ∧ parseFieldDescriptor (q.2.1 2).2.2.1 = some .int := fun q hq => by
  obtain rfl := Option.some.inj hq
  exact ⟨rfl, by decide +kernel⟩
theorem fq_5_3 : ∀ q : vw_C, vwCl[5]? = some q → (q.2.1 3).2.2.2 = false ∧ parseFieldDescriptor (q.2.1 3).2.2.1 = some .int := fun q hq => by
  obtain rfl := Option.some.inj hq
  exact ⟨rfl, by decide +kernel⟩
theorem ob_X2 : Cond.methodLink RX2 3 Lib.objectInit ∈ TB := tbm (i := 46) (by decide +kernel) (by decide +kernel)
theorem fq_2_0 : ∀ q : vw_C, vwCl[2]? = some q → (q.2.1 0).2.2.2 = false ∧ parseFieldDescriptor (q.2.1 0).2.2.1 = some .int := fun q hq => by
  obtain rfl := Option.some.inj hq
  exact ⟨rfl, by decide +kernel⟩
theorem fq_2_2 : ∀ q : vw_C, vwCl[2]? = some q → (q.2.1 2).2.2.2 = false ∧ parseFieldDescriptor (q.2.1 2).2.2.1 = some .int := fun q hq => by
  obtain rfl := Option.some.inj hq
  exact ⟨rfl, by decide +kernel⟩
theorem ob_X4 : Cond.methodLink RX4 1 Lib.objectInit ∈ TB := tbm (i := 144) (by decide +kernel) (by decide +kernel)
theorem fq_4_0 : ∀ q : vw_C, vwCl[4]? = some q → (q.2.1 0).2.2.2 = false ∧ parseFieldDescriptor (q.2.1 0).2.2.1 = some .int := fun q hq => by
  obtain rfl := Option.some.inj hq
  exact ⟨rfl, by decide +kernel⟩
theorem fq_4_1 : ∀ q : vw_C, vwCl[4]? = some q → (q.2.1 1).2.2.2 = false ∧ parseFieldDescriptor (q.2.1 1).2.2.1 = some .int := fun q hq => by
  obtain rfl := Option.some.inj hq
  exact ⟨rfl, by decide +kernel⟩
theorem fq_4_2 : ∀ q : vw_C, vwCl[4]? = some q → (q.2.1 2).2.2.2 = false ∧ parseFieldDescriptor (q.2.1 2).2.2.1 = some .int := fun q hq => by
  obtain rfl := Option.some.inj hq
  exact ⟨rfl, by decide +kernel⟩
theorem ob_X0 : Cond.methodLink RX0 3 Lib.objectInit ∈ TB := tbm (i := 128) (by decide +kernel) (by decide +kernel)
theorem fq_0_0 : ∀ q : vw_C, vwCl[0]? = some q → (q.2.1 0).2.2.2 = true ∧ (q.2.1 0).1 = RX0 ∧ parseFieldDescriptor (q.2.1 0).2.2.1 = some (.array .int) := fun q hq => by
  obtain rfl := Option.some.inj hq
  exact ⟨rfl, rfl, by decide +kernel⟩
theorem ob_X7 : Cond.methodLink RX7 3 Lib.objectInit ∈ TB := tbm (i := 208) (by decide +kernel) (by decide +kernel)
theorem fq_7_0 : ∀ q : vw_C, vwCl[7]? = some q → (q.2.1 0).2.2.2 = true ∧ (q.2.1 0).1 = RX7 ∧ parseFieldDescriptor (q.2.1 0).2.2.1 = some (.array .int) := fun q hq => by
  obtain rfl := Option.some.inj hq
  exact ⟨rfl, rfl, by decide +kernel⟩
theorem ob_X1 : Cond.methodLink RX1 3 Lib.objectInit ∈ TB := tbm (i := 73) (by decide +kernel) (by decide +kernel)
theorem cl_X1_9 : Cond.classLink RX1 9 "RollingFob$Slot" ∈ TB := tbm (i := 74) (by decide +kernel) (by decide +kernel)
theorem fq_1_0 : ∀ q : vw_C, vwCl[1]? = some q → (q.2.1 0).2.2.2 = true ∧ (q.2.1 0).1 = RX1 ∧ parseFieldDescriptor (q.2.1 0).2.2.1 = some (.array (.object "RollingFob$Slot")) := fun q hq => by
  obtain rfl := Option.some.inj hq
  exact ⟨rfl, rfl, by decide +kernel⟩
theorem nl_X1_9 : NL RX1 9 5 4 := ⟨RX5, TX5, rfl, tbm (i := 74) (by decide +kernel) (by decide +kernel), tbm (i := 76) (by decide +kernel) (by decide +kernel), tbm (i := 12) (by decide +kernel) (by decide +kernel)⟩
theorem nv_5 : ∀ r : vw_C, vwCl[5]? = some r → ∀ j, j < 4 → defaultValue ((parseFieldDescriptor (r.2.1 j).2.2.1).getD .int) = vp_V [.int 0, .int 0, .int 0, .int 0] j := fun r hr j hj => by
  obtain rfl := Option.some.inj hr
  rcases (show j = 0 ∨ j = 1 ∨ j = 2 ∨ j = 3 by omega) with rfl | rfl | rfl | rfl
  · show defaultValue ((parseFieldDescriptor "Z").getD .int) = _
    rw [show parseFieldDescriptor "Z" = some .boolean by decide +kernel]
    rfl
  · show defaultValue ((parseFieldDescriptor "I").getD .int) = _
    rw [show parseFieldDescriptor "I" = some .int by decide +kernel]
    rfl
  · show defaultValue ((parseFieldDescriptor "I").getD .int) = _
    rw [show parseFieldDescriptor "I" = some .int by decide +kernel]
    rfl
  · show defaultValue ((parseFieldDescriptor "I").getD .int) = _
    rw [show parseFieldDescriptor "I" = some .int by decide +kernel]
    rfl
theorem il_X1_17 : IL RX1 17 yX5_init cX5_init 1 0 := ⟨tbm (i := 77) (by decide +kernel) (by decide +kernel), tbm (i := 78) (by decide +kernel) (by decide +kernel), tbm (i := 12) (by decide +kernel) (by decide +kernel), tbm (i := 79) (by decide +kernel) (by decide +kernel), rfl, by decide, by decide, by decide +kernel⟩
theorem ob_X6 : Cond.methodLink RX6 3 Lib.objectInit ∈ TB := tbm (i := 39) (by decide +kernel) (by decide +kernel)
theorem cl_X6_9 : Cond.classLink RX6 9 "RollingFob$Fob" ∈ TB := tbm (i := 40) (by decide +kernel) (by decide +kernel)
theorem fq_6_0 : ∀ q : vw_C, vwCl[6]? = some q → (q.2.1 0).2.2.2 = true ∧ (q.2.1 0).1 = RX6 ∧ parseFieldDescriptor (q.2.1 0).2.2.1 = some (.array (.object "RollingFob$Fob")) := fun q hq => by
  obtain rfl := Option.some.inj hq
  exact ⟨rfl, rfl, by decide +kernel⟩
theorem nl_X6_9 : NL RX6 9 2 4 := ⟨RX2, TX2, rfl, tbm (i := 40) (by decide +kernel) (by decide +kernel), tbm (i := 42) (by decide +kernel) (by decide +kernel), tbm (i := 10) (by decide +kernel) (by decide +kernel)⟩
theorem nv_2 : ∀ r : vw_C, vwCl[2]? = some r → ∀ j, j < 4 → defaultValue ((parseFieldDescriptor (r.2.1 j).2.2.1).getD .int) = vp_V [.int 0, .int 0, .int 0, .int 0] j := fun r hr j hj => by
  obtain rfl := Option.some.inj hr
  rcases (show j = 0 ∨ j = 1 ∨ j = 2 ∨ j = 3 by omega) with rfl | rfl | rfl | rfl
  · show defaultValue ((parseFieldDescriptor "I").getD .int) = _
    rw [show parseFieldDescriptor "I" = some .int by decide +kernel]
    rfl
  · show defaultValue ((parseFieldDescriptor "I").getD .int) = _
    rw [show parseFieldDescriptor "I" = some .int by decide +kernel]
    rfl
  · show defaultValue ((parseFieldDescriptor "I").getD .int) = _
    rw [show parseFieldDescriptor "I" = some .int by decide +kernel]
    rfl
  · show defaultValue ((parseFieldDescriptor "I").getD .int) = _
    rw [show parseFieldDescriptor "I" = some .int by decide +kernel]
    rfl
theorem il_X6_17 : IL RX6 17 yX2_init cX2_init 2 1 := ⟨tbm (i := 43) (by decide +kernel) (by decide +kernel), tbm (i := 44) (by decide +kernel) (by decide +kernel), tbm (i := 10) (by decide +kernel) (by decide +kernel), tbm (i := 45) (by decide +kernel) (by decide +kernel), rfl, by decide, by decide, by decide +kernel⟩
theorem cl_X6_20 : Cond.classLink RX6 20 "RollingFob$Door" ∈ TB := tbm (i := 67) (by decide +kernel) (by decide +kernel)
theorem fq_6_1 : ∀ q : vw_C, vwCl[6]? = some q → (q.2.1 1).2.2.2 = true ∧ (q.2.1 1).1 = RX6 ∧ parseFieldDescriptor (q.2.1 1).2.2.1 = some (.array (.object "RollingFob$Door")) := fun q hq => by
  obtain rfl := Option.some.inj hq
  exact ⟨rfl, rfl, by decide +kernel⟩
theorem nl_X6_20 : NL RX6 20 1 7 := ⟨RX1, TX1, rfl, tbm (i := 67) (by decide +kernel) (by decide +kernel), tbm (i := 69) (by decide +kernel) (by decide +kernel), tbm (i := 11) (by decide +kernel) (by decide +kernel)⟩
theorem nv_1 : ∀ r : vw_C, vwCl[1]? = some r → ∀ j, j < 7 → defaultValue ((parseFieldDescriptor (r.2.1 j).2.2.1).getD .int) = vp_V [.null, .int 0, .int 0, .int 0, .int 0, .int 0, .int 0] j := fun r hr j hj => by
  obtain rfl := Option.some.inj hr
  rcases (show j = 0 ∨ j = 1 ∨ j = 2 ∨ j = 3 ∨ j = 4 ∨ j = 5 ∨ j = 6 by omega) with rfl | rfl | rfl | rfl | rfl | rfl | rfl
  · show defaultValue ((parseFieldDescriptor "[LRollingFob$Slot;").getD .int) = _
    rw [show parseFieldDescriptor "[LRollingFob$Slot;" = some (.array (.object "RollingFob$Slot")) by decide +kernel]
    rfl
  · show defaultValue ((parseFieldDescriptor "Z").getD .int) = _
    rw [show parseFieldDescriptor "Z" = some .boolean by decide +kernel]
    rfl
  · show defaultValue ((parseFieldDescriptor "I").getD .int) = _
    rw [show parseFieldDescriptor "I" = some .int by decide +kernel]
    rfl
  · show defaultValue ((parseFieldDescriptor "I").getD .int) = _
    rw [show parseFieldDescriptor "I" = some .int by decide +kernel]
    rfl
  · show defaultValue ((parseFieldDescriptor "I").getD .int) = _
    rw [show parseFieldDescriptor "I" = some .int by decide +kernel]
    rfl
  · show defaultValue ((parseFieldDescriptor "I").getD .int) = _
    rw [show parseFieldDescriptor "I" = some .int by decide +kernel]
    rfl
  · show defaultValue ((parseFieldDescriptor "I").getD .int) = _
    rw [show parseFieldDescriptor "I" = some .int by decide +kernel]
    rfl
theorem il_X6_26 : IL RX6 26 yX1_init cX1_init 2 0 := ⟨tbm (i := 70) (by decide +kernel) (by decide +kernel), tbm (i := 71) (by decide +kernel) (by decide +kernel), tbm (i := 11) (by decide +kernel) (by decide +kernel), tbm (i := 72) (by decide +kernel) (by decide +kernel), rfl, by decide, by decide, by decide +kernel⟩
theorem nl_X6_27 : NL RX6 27 0 2 := ⟨RX0, TX0, rfl, tbm (i := 123) (by decide +kernel) (by decide +kernel), tbm (i := 124) (by decide +kernel) (by decide +kernel), tbm (i := 13) (by decide +kernel) (by decide +kernel)⟩
theorem nv_0 : ∀ r : vw_C, vwCl[0]? = some r → ∀ j, j < 2 → defaultValue ((parseFieldDescriptor (r.2.1 j).2.2.1).getD .int) = vp_V [.null, .int 0] j := fun r hr j hj => by
  obtain rfl := Option.some.inj hr
  rcases (show j = 0 ∨ j = 1 by omega) with rfl | rfl
  · show defaultValue ((parseFieldDescriptor "[I").getD .int) = _
    rw [show parseFieldDescriptor "[I" = some (.array .int) by decide +kernel]
    rfl
  · show defaultValue ((parseFieldDescriptor "I").getD .int) = _
    rw [show parseFieldDescriptor "I" = some .int by decide +kernel]
    rfl
theorem il_X6_29 : IL RX6 29 yX0_init cX0_init 1 0 := ⟨tbm (i := 125) (by decide +kernel) (by decide +kernel), tbm (i := 126) (by decide +kernel) (by decide +kernel), tbm (i := 13) (by decide +kernel) (by decide +kernel), tbm (i := 127) (by decide +kernel) (by decide +kernel), rfl, by decide, by decide, by decide +kernel⟩
theorem fq_6_2 : ∀ q : vw_C, vwCl[6]? = some q → (q.2.1 2).2.2.2 = true ∧ (q.2.1 2).1 = RX6 ∧ parseFieldDescriptor (q.2.1 2).2.2.1 = some (.object "RollingFob$Air") := fun q hq => by
  obtain rfl := Option.some.inj hq
  exact ⟨rfl, rfl, by decide +kernel⟩
theorem nl_X6_34 : NL RX6 34 4 3 := ⟨RX4, TX4, rfl, tbm (i := 139) (by decide +kernel) (by decide +kernel), tbm (i := 140) (by decide +kernel) (by decide +kernel), tbm (i := 14) (by decide +kernel) (by decide +kernel)⟩
theorem nv_4 : ∀ r : vw_C, vwCl[4]? = some r → ∀ j, j < 3 → defaultValue ((parseFieldDescriptor (r.2.1 j).2.2.1).getD .int) = vp_V [.int 0, .int 0, .int 0] j := fun r hr j hj => by
  obtain rfl := Option.some.inj hr
  rcases (show j = 0 ∨ j = 1 ∨ j = 2 by omega) with rfl | rfl | rfl
  · show defaultValue ((parseFieldDescriptor "I").getD .int) = _
    rw [show parseFieldDescriptor "I" = some .int by decide +kernel]
    rfl
  · show defaultValue ((parseFieldDescriptor "I").getD .int) = _
    rw [show parseFieldDescriptor "I" = some .int by decide +kernel]
    rfl
  · show defaultValue ((parseFieldDescriptor "I").getD .int) = _
    rw [show parseFieldDescriptor "I" = some .int by decide +kernel]
    rfl
theorem il_X6_36 : IL RX6 36 yX4_init cX4_init 1 0 := ⟨tbm (i := 141) (by decide +kernel) (by decide +kernel), tbm (i := 142) (by decide +kernel) (by decide +kernel), tbm (i := 14) (by decide +kernel) (by decide +kernel), tbm (i := 143) (by decide +kernel) (by decide +kernel), rfl, by decide, by decide, by decide +kernel⟩
theorem fq_6_3 : ∀ q : vw_C, vwCl[6]? = some q → (q.2.1 3).2.2.2 = true ∧ (q.2.1 3).1 = RX6 ∧ parseFieldDescriptor (q.2.1 3).2.2.1 = some (.object "RollingFob$Settings") := fun q hq => by
  obtain rfl := Option.some.inj hq
  exact ⟨rfl, rfl, by decide +kernel⟩
theorem ob_X3 : Cond.methodLink RX3 3 Lib.objectInit ∈ TB := tbm (i := 188) (by decide +kernel) (by decide +kernel)
theorem cl_X3_9 : Cond.classLink RX3 9 "RollingFob$State" ∈ TB := tbm (i := 189) (by decide +kernel) (by decide +kernel)
theorem fq_3_0 : ∀ q : vw_C, vwCl[3]? = some q → (q.2.1 0).2.2.2 = true ∧ (q.2.1 0).1 = RX3 ∧ parseFieldDescriptor (q.2.1 0).2.2.1 = some (.array (.object "RollingFob$State")) := fun q hq => by
  obtain rfl := Option.some.inj hq
  exact ⟨rfl, rfl, by decide +kernel⟩
theorem nl_X3_9 : NL RX3 9 6 6 := ⟨RX6, TX6, rfl, tbm (i := 189) (by decide +kernel) (by decide +kernel), tbm (i := 35) (by decide +kernel) (by decide +kernel), tbm (i := 9) (by decide +kernel) (by decide +kernel)⟩
theorem nv_6 : ∀ r : vw_C, vwCl[6]? = some r → ∀ j, j < 6 → defaultValue ((parseFieldDescriptor (r.2.1 j).2.2.1).getD .int) = vp_V [.null, .null, .null, .null, .int 0, .int 0] j := fun r hr j hj => by
  obtain rfl := Option.some.inj hr
  rcases (show j = 0 ∨ j = 1 ∨ j = 2 ∨ j = 3 ∨ j = 4 ∨ j = 5 by omega) with rfl | rfl | rfl | rfl | rfl | rfl
  · show defaultValue ((parseFieldDescriptor "[LRollingFob$Fob;").getD .int) = _
    rw [show parseFieldDescriptor "[LRollingFob$Fob;" = some (.array (.object "RollingFob$Fob")) by decide +kernel]
    rfl
  · show defaultValue ((parseFieldDescriptor "[LRollingFob$Door;").getD .int) = _
    rw [show parseFieldDescriptor "[LRollingFob$Door;" = some (.array (.object "RollingFob$Door")) by decide +kernel]
    rfl
  · show defaultValue ((parseFieldDescriptor "LRollingFob$Air;").getD .int) = _
    rw [show parseFieldDescriptor "LRollingFob$Air;" = some (.object "RollingFob$Air") by decide +kernel]
    rfl
  · show defaultValue ((parseFieldDescriptor "LRollingFob$Settings;").getD .int) = _
    rw [show parseFieldDescriptor "LRollingFob$Settings;" = some (.object "RollingFob$Settings") by decide +kernel]
    rfl
  · show defaultValue ((parseFieldDescriptor "I").getD .int) = _
    rw [show parseFieldDescriptor "I" = some .int by decide +kernel]
    rfl
  · show defaultValue ((parseFieldDescriptor "I").getD .int) = _
    rw [show parseFieldDescriptor "I" = some .int by decide +kernel]
    rfl
theorem il_X3_17 : IL RX3 17 yX6_init cX6_init 2 0 := ⟨tbm (i := 191) (by decide +kernel) (by decide +kernel), tbm (i := 37) (by decide +kernel) (by decide +kernel), tbm (i := 9) (by decide +kernel) (by decide +kernel), tbm (i := 38) (by decide +kernel) (by decide +kernel), rfl, by decide, by decide, by decide +kernel⟩
def W_X5 (h0 : Nat) : va_W := [(h0, .inr (5, [.int 0, .int (-1), .int (-1), .int (-1)]))]
def W_X2 (h0 : Nat) (v : Int32) : va_W := [(h0, .inr (2, [.int v, .int 0, .int 100, .int 0]))]
def W_X4 (h0 : Nat) : va_W := [(h0, .inr (4, [.int 16, .int 100, .int 8]))]
def W_X0 (cy : Nat → ClassId) (h0 z : Nat) : va_W := [(h0, .inr (0, [.ref z, .int 0])), (z, .inl (cy 0, 8, .inl (AIR)))]
def W_X7 (cy : Nat → ClassId) (h0 z : Nat) : va_W := [(h0, .inr (7, [.ref z, .int 0])), (z, .inl (cy 0, 60, .inl (fun _ => 0)))]
def W_X1 (cy : Nat → ClassId) (h0 : Nat) (z : Nat → Nat) : va_W := [(h0, .inr (1, [.ref (z 0), .int 0, .int 0, .int 0, .int 0, .int 0, .int 0])), (z 0, .inl (cy 3, 4, .inr (.inr (.inr (.inr (fun i => some (z (i + 1)))))))), (z 1, .inr (5, [.int 0, .int (-1), .int (-1), .int (-1)])), (z 2, .inr (5, [.int 0, .int (-1), .int (-1), .int (-1)])), (z 3, .inr (5, [.int 0, .int (-1), .int (-1), .int (-1)])), (z 4, .inr (5, [.int 0, .int (-1), .int (-1), .int (-1)]))]
theorem W_X1_m (cy : Nat → ClassId) (h0 : Nat) (z : Nat → Nat) : (h0, .inr (1, [.ref (z 0), .int 0, .int 0, .int 0, .int 0, .int 0, .int 0])) ∈ W_X1 cy h0 z := List.mem_cons_self
def W_X6 (cy : Nat → ClassId) (h0 : Nat) (z : Nat → Nat → Nat) : va_W := (h0, .inr (6, [.ref (z 1 0), .ref (z 3 0), .ref (z 6 0), .ref (z 8 0), .int 0, .int 0])) :: (z 1 0, .inl (cy 1, 4, .inr (.inr (.inr (.inr (fun i => some (z 2 i))))))) :: (z 2 0, .inr (2, [.int 0, .int 0, .int 100, .int 0])) :: (z 2 1, .inr (2, [.int 1, .int 0, .int 100, .int 0])) :: (z 2 2, .inr (2, [.int 2, .int 0, .int 100, .int 0])) :: (z 2 3, .inr (2, [.int 3, .int 0, .int 100, .int 0])) :: (z 3 0, .inl (cy 2, 3, .inr (.inr (.inr (.inr (fun i => some (z 4 i))))))) :: ((((W_X1 cy (z 4 0) (z 30) ++ W_X1 cy (z 4 1) (z 31)) ++ W_X1 cy (z 4 2) (z 32)) ++ W_X0 cy (z 6 0) (z 7 0)) ++ W_X4 (z 8 0))
theorem W_X6_m (cy : Nat → ClassId) (h0 : Nat) (z : Nat → Nat → Nat) : (h0, .inr (6, [.ref (z 1 0), .ref (z 3 0), .ref (z 6 0), .ref (z 8 0), .int 0, .int 0])) ∈ W_X6 cy h0 z := List.mem_cons_self
theorem fin_X6 {D : va_G} {cl : List vw_C} (cy : Nat → ClassId) (h0 a1 f0 f1 f2 f3 a3 d0 d1 d2 a6 a7 a8 : Nat) (y0 y1 y2 : Nat → Nat) : ∃ z : Nat → Nat → Nat, (∀ H, va_P D cl ((h0, .inr (6, [.ref a1, .ref a3, .ref a6, .ref a8, .int 0, .int 0])) :: (a1, .inl (cy 1, 4, .inr (.inr (.inr (.inr (va_up (va_up (va_up (va_up (fun _ => none) 0 (some f0)) 1 (some f1)) 2 (some f2)) 3 (some f3))))))) :: (f0, .inr (2, [.int 0, .int 0, .int 100, .int 0])) :: (f1, .inr (2, [.int 1, .int 0, .int 100, .int 0])) :: (f2, .inr (2, [.int 2, .int 0, .int 100, .int 0])) :: (f3, .inr (2, [.int 3, .int 0, .int 100, .int 0])) :: (a3, .inl (cy 2, 3, .inr (.inr (.inr (.inr (va_up (va_up (va_up (fun _ => none) 0 (some d0)) 1 (some d1)) 2 (some d2))))))) :: ((((W_X1 cy d0 y0 ++ W_X1 cy d1 y1) ++ W_X1 cy d2 y2) ++ W_X0 cy a6 a7) ++ W_X4 a8)) H → va_P D cl (W_X6 cy h0 z) H) ∧ (W_X6 cy h0 z).map Prod.fst = ((h0, .inr (6, [.ref a1, .ref a3, .ref a6, .ref a8, .int 0, .int 0])) :: (a1, .inl (cy 1, 4, .inr (.inr (.inr (.inr (va_up (va_up (va_up (va_up (fun _ => none) 0 (some f0)) 1 (some f1)) 2 (some f2)) 3 (some f3))))))) :: (f0, .inr (2, [.int 0, .int 0, .int 100, .int 0])) :: (f1, .inr (2, [.int 1, .int 0, .int 100, .int 0])) :: (f2, .inr (2, [.int 2, .int 0, .int 100, .int 0])) :: (f3, .inr (2, [.int 3, .int 0, .int 100, .int 0])) :: (a3, .inl (cy 2, 3, .inr (.inr (.inr (.inr (va_up (va_up (va_up (fun _ => none) 0 (some d0)) 1 (some d1)) 2 (some d2))))))) :: ((((W_X1 cy d0 y0 ++ W_X1 cy d1 y1) ++ W_X1 cy d2 y2) ++ W_X0 cy a6 a7) ++ W_X4 a8) : va_W).map Prod.fst := by
  have hf : ∀ i, i < 4 → (va_up (va_up (va_up (va_up (fun _ => none) 0 (some f0)) 1 (some f1)) 2 (some f2)) 3 (some f3)) i = (fun i => some ((fun c j => if c = 1 then a1 else if c = 2 then (if j = 0 then f0 else if j = 1 then f1 else if j = 2 then f2 else f3) else if c = 3 then a3 else if c = 4 then (if j = 0 then d0 else if j = 1 then d1 else d2) else if c = 6 then a6 else if c = 7 then a7 else if c = 8 then a8 else if c = 30 then y0 j else if c = 31 then y1 j else y2 j) 2 i)) i := fun i hi => by
    rcases (show i = 0 ∨ i = 1 ∨ i = 2 ∨ i = 3 by omega) with rfl | rfl | rfl | rfl <;> rfl
  have hd : ∀ i, i < 3 → (va_up (va_up (va_up (fun _ => none) 0 (some d0)) 1 (some d1)) 2 (some d2)) i = (fun i => some ((fun c j => if c = 1 then a1 else if c = 2 then (if j = 0 then f0 else if j = 1 then f1 else if j = 2 then f2 else f3) else if c = 3 then a3 else if c = 4 then (if j = 0 then d0 else if j = 1 then d1 else d2) else if c = 6 then a6 else if c = 7 then a7 else if c = 8 then a8 else if c = 30 then y0 j else if c = 31 then y1 j else y2 j) 4 i)) i := fun i hi => by
    rcases (show i = 0 ∨ i = 1 ∨ i = 2 by omega) with rfl | rfl | rfl <;> rfl
  refine ⟨fun c j => if c = 1 then a1 else if c = 2 then (if j = 0 then f0 else if j = 1 then f1 else if j = 2 then f2 else f3) else if c = 3 then a3 else if c = 4 then (if j = 0 then d0 else if j = 1 then d1 else d2) else if c = 6 then a6 else if c = 7 then a7 else if c = 8 then a8 else if c = 30 then y0 j else if c = 31 then y1 j else y2 j, pcons (fun _ h => h) (pcons (parr hf) (pcons (fun _ h => h) (pcons (fun _ h => h) (pcons (fun _ h => h) (pcons (fun _ h => h) (pcons (parr hd) (fun _ h => h))))))), rfl⟩
def W_X3 (cy : Nat → ClassId) (h0 : Nat) (z : Nat → Nat → Nat → Nat) : va_W := (h0, .inr (3, [.ref (z 0 0 0), .int 0, .int 0])) :: (z 0 0 0, .inl (cy 4, 6, .inr (.inr (.inr (.inr (fun i => some (z (i + 1) 0 0))))))) :: (((((W_X6 cy (z 1 0 0) (z 1) ++ W_X6 cy (z 2 0 0) (z 2)) ++ W_X6 cy (z 3 0 0) (z 3)) ++ W_X6 cy (z 4 0 0) (z 4)) ++ W_X6 cy (z 5 0 0) (z 5)) ++ W_X6 cy (z 6 0 0) (z 6))
theorem W_X6_c (cy : Nat → ClassId) (h0 : Nat) {z z' : Nat → Nat → Nat} (h : ∀ c j, c ≠ 0 → z c j = z' c j) : W_X6 cy h0 z = W_X6 cy h0 z' := by
  have e : ∀ c, c ≠ 0 → z c = z' c := fun c hc => funext fun j => h c j hc
  unfold W_X6
  rw [e 1 (by omega), e 2 (by omega), e 3 (by omega), e 4 (by omega), e 6 (by omega), e 7 (by omega), e 8 (by omega), e 30 (by omega), e 31 (by omega), e 32 (by omega)]
theorem fin_X3 {D : va_G} {cl : List vw_C} (cy : Nat → ClassId) (h0 a1 q0 q1 q2 q3 q4 q5 : Nat) (y0 y1 y2 y3 y4 y5 : Nat → Nat → Nat) : ∃ z : Nat → Nat → Nat → Nat, (∀ H, va_P D cl ((h0, .inr (3, [.ref a1, .int 0, .int 0])) :: (a1, .inl (cy 4, 6, .inr (.inr (.inr (.inr (va_up (va_up (va_up (va_up (va_up (va_up (fun _ => none) 0 (some q0)) 1 (some q1)) 2 (some q2)) 3 (some q3)) 4 (some q4)) 5 (some q5))))))) :: (((((W_X6 cy q0 y0 ++ W_X6 cy q1 y1) ++ W_X6 cy q2 y2) ++ W_X6 cy q3 y3) ++ W_X6 cy q4 y4) ++ W_X6 cy q5 y5)) H → va_P D cl (W_X3 cy h0 z) H) ∧ (W_X3 cy h0 z).map Prod.fst = ((h0, .inr (3, [.ref a1, .int 0, .int 0])) :: (a1, .inl (cy 4, 6, .inr (.inr (.inr (.inr (va_up (va_up (va_up (va_up (va_up (va_up (fun _ => none) 0 (some q0)) 1 (some q1)) 2 (some q2)) 3 (some q3)) 4 (some q4)) 5 (some q5))))))) :: (((((W_X6 cy q0 y0 ++ W_X6 cy q1 y1) ++ W_X6 cy q2 y2) ++ W_X6 cy q3 y3) ++ W_X6 cy q4 y4) ++ W_X6 cy q5 y5) : va_W).map Prod.fst := by
  obtain ⟨z, hz⟩ : ∃ z : Nat → Nat → Nat → Nat, z = fun k c j => if k = 0 then a1 else if k = 1 then (if c = 0 then q0 else y0 c j) else if k = 2 then (if c = 0 then q1 else y1 c j) else if k = 3 then (if c = 0 then q2 else y2 c j) else if k = 4 then (if c = 0 then q3 else y3 c j) else if k = 5 then (if c = 0 then q4 else y4 c j) else (if c = 0 then q5 else y5 c j) := ⟨_, rfl⟩
  have ea : z 0 0 0 = a1 := by rw [hz]; rfl
  have eq0 : z 1 0 0 = q0 := by rw [hz]; rfl
  have ey0 : W_X6 cy q0 (z 1) = W_X6 cy q0 y0 := W_X6_c cy q0 (fun c j hc => by rw [hz]; exact if_neg hc)
  have eq1 : z 2 0 0 = q1 := by rw [hz]; rfl
  have ey1 : W_X6 cy q1 (z 2) = W_X6 cy q1 y1 := W_X6_c cy q1 (fun c j hc => by rw [hz]; exact if_neg hc)
  have eq2 : z 3 0 0 = q2 := by rw [hz]; rfl
  have ey2 : W_X6 cy q2 (z 3) = W_X6 cy q2 y2 := W_X6_c cy q2 (fun c j hc => by rw [hz]; exact if_neg hc)
  have eq3 : z 4 0 0 = q3 := by rw [hz]; rfl
  have ey3 : W_X6 cy q3 (z 4) = W_X6 cy q3 y3 := W_X6_c cy q3 (fun c j hc => by rw [hz]; exact if_neg hc)
  have eq4 : z 5 0 0 = q4 := by rw [hz]; rfl
  have ey4 : W_X6 cy q4 (z 5) = W_X6 cy q4 y4 := W_X6_c cy q4 (fun c j hc => by rw [hz]; exact if_neg hc)
  have eq5 : z 6 0 0 = q5 := by rw [hz]; rfl
  have ey5 : W_X6 cy q5 (z 6) = W_X6 cy q5 y5 := W_X6_c cy q5 (fun c j hc => by rw [hz]; exact if_neg hc)
  have hf : ∀ i, i < 6 → (va_up (va_up (va_up (va_up (va_up (va_up (fun _ => none) 0 (some q0)) 1 (some q1)) 2 (some q2)) 3 (some q3)) 4 (some q4)) 5 (some q5)) i = (fun i => some (z (i + 1) 0 0)) i := fun i hi => by
    rcases (show i = 0 ∨ i = 1 ∨ i = 2 ∨ i = 3 ∨ i = 4 ∨ i = 5 by omega) with e | e | e | e | e | e <;> subst e
    · show some q0 = some (z 1 0 0)
      rw [eq0]
    · show some q1 = some (z 2 0 0)
      rw [eq1]
    · show some q2 = some (z 3 0 0)
      rw [eq2]
    · show some q3 = some (z 4 0 0)
      rw [eq3]
    · show some q4 = some (z 5 0 0)
      rw [eq4]
    · show some q5 = some (z 6 0 0)
      rw [eq5]
  have ew : W_X3 cy h0 z = (h0, .inr (3, [.ref a1, .int 0, .int 0])) :: (a1, .inl (cy 4, 6, .inr (.inr (.inr (.inr (fun i => some (z (i + 1) 0 0))))))) :: (((((W_X6 cy q0 y0 ++ W_X6 cy q1 y1) ++ W_X6 cy q2 y2) ++ W_X6 cy q3 y3) ++ W_X6 cy q4 y4) ++ W_X6 cy q5 y5) := by
    unfold W_X3
    rw [ea, eq0, eq1, eq2, eq3, eq4, eq5, ey0, ey1, ey2, ey3, ey4, ey5]
  refine ⟨z, ?_, ?_⟩
  · rw [ew]
    exact pcons (fun _ h => h) (pcons (parr hf) (fun _ h => h))
  · rw [ew]
    rfl
abbrev rm_X5_init : Room := { frames := 1, cells := 0, slots := 0, locals := 20 }
set_option maxHeartbeats 4000000 in
set_option maxRecDepth 100000 in
theorem c_X5_init {l : Launch} {D : va_G} {cy : Nat → ClassId} {h0 : Nat} : Cn l yX5_init cX5_init 1 rm_X5_init D cy h0 [] (.inr (5, [.int 0, .int 0, .int 0, .int 0])) 0 0 (S := Unit) (fun _ => W_X5 h0) := by
  refine rc_entry (by decide) rfl (Nat.le_of_ble_eq_true rfl) ?_
  intro p e s m args below meth c hc hnm hAO hA
  show RM _ _ _ _ _ _ _ _ _ _ _ _ _ _ _ _ _ [(0, .ref h0)] []
  refine rm_aload_n hc dX5_init_0 rfl rfl ?_
  refine rc_obj hc dX5_init_1 ob_X5 (by decide) ⟨Nat.le_of_ble_eq_true rfl, Nat.le_of_ble_eq_true rfl⟩ ?_
  refine rm_aload_n hc dX5_init_4 rfl rfl ?_
  refine rm_iconst (v := (-1)) hc dX5_init_5 (by decide) ?_
  refine rc_put hc dX5_init_6 fl_X5_9 0 rfl (Nat.le_of_ble_eq_true rfl) fq_5_1 rfl rfl (rc_wn (ws' := [(h0, .inr (5, [.int 0, .int (-1), .int 0, .int 0]))]) (nc' := 0) (ns' := 0) rfl rfl rfl ?_)
  refine rm_aload_n hc dX5_init_9 rfl rfl ?_
  refine rm_iconst (v := (-1)) hc dX5_init_10 (by decide) ?_
  refine rc_put hc dX5_init_11 fl_X5_15 0 rfl (Nat.le_of_ble_eq_true rfl) fq_5_2 rfl rfl (rc_wn (ws' := [(h0, .inr (5, [.int 0, .int (-1), .int (-1), .int 0]))]) (nc' := 0) (ns' := 0) rfl rfl rfl ?_)
  refine rm_aload_n hc dX5_init_14 rfl rfl ?_
  refine rm_iconst (v := (-1)) hc dX5_init_15 (by decide) ?_
  refine rc_put hc dX5_init_16 fl_X5_18 0 rfl (Nat.le_of_ble_eq_true rfl) fq_5_3 rfl rfl (rc_wn (ws' := [(h0, .inr (5, [.int 0, .int (-1), .int (-1), .int (-1)]))]) (nc' := 0) (ns' := 0) rfl rfl rfl ?_)
  exact rc_vret (W1 := fun _ => W_X5 h0) (z := ()) hc dX5_init_19 (fun _ h => h) (fun h => h)

abbrev rm_X2_init : Room := { frames := 1, cells := 0, slots := 0, locals := 20 }
set_option maxHeartbeats 4000000 in
set_option maxRecDepth 100000 in
theorem c_X2_init {l : Launch} {D : va_G} {cy : Nat → ClassId} {h0 : Nat} (v : Int32) : Cn l yX2_init cX2_init 2 rm_X2_init D cy h0 [.int v] (.inr (2, [.int 0, .int 0, .int 0, .int 0])) 0 0 (S := Unit) (fun _ => W_X2 h0 v) := by
  refine rc_entry (by decide) rfl (Nat.le_of_ble_eq_true rfl) ?_
  intro p e s m args below meth c hc hnm hAO hA
  show RM _ _ _ _ _ _ _ _ _ _ _ _ _ _ _ _ _ [(0, .ref h0), (1, .int v)] []
  refine rm_aload_n hc dX2_init_0 rfl rfl ?_
  refine rc_obj hc dX2_init_1 ob_X2 (by decide) ⟨Nat.le_of_ble_eq_true rfl, Nat.le_of_ble_eq_true rfl⟩ ?_
  refine rm_aload_n hc dX2_init_4 rfl rfl ?_
  refine rm_iload_n hc dX2_init_5 rfl rfl ?_
  refine rc_put hc dX2_init_6 fl_X2_9 0 rfl (Nat.le_of_ble_eq_true rfl) fq_2_0 rfl rfl (rc_wn (ws' := [(h0, .inr (2, [.int v, .int 0, .int 0, .int 0]))]) (nc' := 0) (ns' := 0) rfl rfl rfl ?_)
  refine rm_aload_n hc dX2_init_9 rfl rfl ?_
  refine rm_bipush (v := 100) hc dX2_init_10 (by decide) ?_
  refine rc_put hc dX2_init_12 fl_X2_15 0 rfl (Nat.le_of_ble_eq_true rfl) fq_2_2 rfl rfl (rc_wn (ws' := [(h0, .inr (2, [.int v, .int 0, .int 100, .int 0]))]) (nc' := 0) (ns' := 0) rfl rfl rfl ?_)
  exact rc_vret (W1 := fun _ => W_X2 h0 v) (z := ()) hc dX2_init_15 (fun _ h => h) (fun h => h)

abbrev rm_X4_init : Room := { frames := 1, cells := 0, slots := 0, locals := 20 }
set_option maxHeartbeats 4000000 in
set_option maxRecDepth 100000 in
theorem c_X4_init {l : Launch} {D : va_G} {cy : Nat → ClassId} {h0 : Nat} : Cn l yX4_init cX4_init 1 rm_X4_init D cy h0 [] (.inr (4, [.int 0, .int 0, .int 0])) 0 0 (S := Unit) (fun _ => W_X4 h0) := by
  refine rc_entry (by decide) rfl (Nat.le_of_ble_eq_true rfl) ?_
  intro p e s m args below meth c hc hnm hAO hA
  show RM _ _ _ _ _ _ _ _ _ _ _ _ _ _ _ _ _ [(0, .ref h0)] []
  refine rm_aload_n hc dX4_init_0 rfl rfl ?_
  refine rc_obj hc dX4_init_1 ob_X4 (by decide) ⟨Nat.le_of_ble_eq_true rfl, Nat.le_of_ble_eq_true rfl⟩ ?_
  refine rm_aload_n hc dX4_init_4 rfl rfl ?_
  refine rm_bipush (v := 16) hc dX4_init_5 (by decide) ?_
  refine rc_put hc dX4_init_7 fl_X4_7 0 rfl (Nat.le_of_ble_eq_true rfl) fq_4_0 rfl rfl (rc_wn (ws' := [(h0, .inr (4, [.int 16, .int 0, .int 0]))]) (nc' := 0) (ns' := 0) rfl rfl rfl ?_)
  refine rm_aload_n hc dX4_init_10 rfl rfl ?_
  refine rm_bipush (v := 100) hc dX4_init_11 (by decide) ?_
  refine rc_put hc dX4_init_13 fl_X4_13 0 rfl (Nat.le_of_ble_eq_true rfl) fq_4_1 rfl rfl (rc_wn (ws' := [(h0, .inr (4, [.int 16, .int 100, .int 0]))]) (nc' := 0) (ns' := 0) rfl rfl rfl ?_)
  refine rm_aload_n hc dX4_init_16 rfl rfl ?_
  refine rm_bipush (v := 8) hc dX4_init_17 (by decide) ?_
  refine rc_put hc dX4_init_19 fl_X4_16 0 rfl (Nat.le_of_ble_eq_true rfl) fq_4_2 rfl rfl (rc_wn (ws' := [(h0, .inr (4, [.int 16, .int 100, .int 8]))]) (nc' := 0) (ns' := 0) rfl rfl rfl ?_)
  exact rc_vret (W1 := fun _ => W_X4 h0) (z := ()) hc dX4_init_22 (fun _ h => h) (fun h => h)

abbrev rm_X0_init : Room := { frames := 1, cells := 1, slots := 8, locals := 20 }
set_option maxHeartbeats 4000000 in
set_option maxRecDepth 100000 in
theorem c_X0_init {l : Launch} {D : va_G} {cy : Nat → ClassId} {h0 : Nat} : Cn l yX0_init cX0_init 1 rm_X0_init D cy h0 [] (.inr (0, [.null, .int 0])) 1 8 (S := Nat) (fun z => W_X0 cy h0 z) := by
  refine rc_entry (by decide) rfl (Nat.le_of_ble_eq_true rfl) ?_
  intro p e s m args below meth c hc hnm hAO hA
  show RM _ _ _ _ _ _ _ _ _ _ _ _ _ _ _ _ _ [(0, .ref h0)] []
  refine rm_aload_n hc dX0_init_0 rfl rfl ?_
  refine rc_obj hc dX0_init_1 ob_X0 (by decide) ⟨Nat.le_of_ble_eq_true rfl, Nat.le_of_ble_eq_true rfl⟩ ?_
  refine rm_aload_n hc dX0_init_4 rfl rfl ?_
  refine rm_bipush (v := 8) hc dX0_init_5 (by decide) ?_
  refine rc_newi (N := 8) hc dX0_init_7 hA (by decide) (by decide) (by decide) ⟨Nat.le_of_ble_eq_true rfl, Nat.le_of_ble_eq_true rfl⟩ (fun q_1 => rc_wn (ws' := [(h0, .inr (0, [.null, .int 0])), (q_1, .inl (cy 0, 8, .inl (fun _ => 0)))]) (nc' := 1) (ns' := 8) rfl rfl rfl ?_)
  refine rc_putF hc hnm dX0_init_9 fl_X0_9 0 rfl (Nat.le_of_ble_eq_true rfl) fq_0_0 rfl rfl (rc_wn (ws' := [(h0, .inr (0, [.ref q_1, .int 0])), (q_1, .inl (cy 0, 8, .inl (fun _ => 0)))]) (nc' := 1) (ns' := 8) rfl rfl rfl ?_)
  exact rc_vret (W1 := fun z => W_X0 cy h0 z) (z := q_1) hc dX0_init_12 (fun _ h => by unfold W_X0; rw [air0]; exact h) (fun h => dmap h rfl)

abbrev rm_X7_init : Room := { frames := 1, cells := 1, slots := 60, locals := 20 }
set_option maxHeartbeats 4000000 in
set_option maxRecDepth 100000 in
theorem c_X7_init {l : Launch} {D : va_G} {cy : Nat → ClassId} {h0 : Nat} : Cn l yX7_init cX7_init 1 rm_X7_init D cy h0 [] (.inr (7, [.null, .int 0])) 1 60 (S := Nat) (fun z => W_X7 cy h0 z) := by
  refine rc_entry (by decide) rfl (Nat.le_of_ble_eq_true rfl) ?_
  intro p e s m args below meth c hc hnm hAO hA
  show RM _ _ _ _ _ _ _ _ _ _ _ _ _ _ _ _ _ [(0, .ref h0)] []
  refine rm_aload_n hc dX7_init_0 rfl rfl ?_
  refine rc_obj hc dX7_init_1 ob_X7 (by decide) ⟨Nat.le_of_ble_eq_true rfl, Nat.le_of_ble_eq_true rfl⟩ ?_
  refine rm_aload_n hc dX7_init_4 rfl rfl ?_
  refine rm_bipush (v := 60) hc dX7_init_5 (by decide) ?_
  refine rc_newi (N := 60) hc dX7_init_7 hA (by decide) (by decide) (by decide) ⟨Nat.le_of_ble_eq_true rfl, Nat.le_of_ble_eq_true rfl⟩ (fun q_1 => rc_wn (ws' := [(h0, .inr (7, [.null, .int 0])), (q_1, .inl (cy 0, 60, .inl (fun _ => 0)))]) (nc' := 1) (ns' := 60) rfl rfl rfl ?_)
  refine rc_putF hc hnm dX7_init_9 fl_X7_9 0 rfl (Nat.le_of_ble_eq_true rfl) fq_7_0 rfl rfl (rc_wn (ws' := [(h0, .inr (7, [.ref q_1, .int 0])), (q_1, .inl (cy 0, 60, .inl (fun _ => 0)))]) (nc' := 1) (ns' := 60) rfl rfl rfl ?_)
  exact rc_vret (W1 := fun z => W_X7 cy h0 z) (z := q_1) hc dX7_init_12 (fun _ h => h) (fun h => dmap h rfl)

abbrev rm_X1_init : Room := { frames := 2, cells := 5, slots := 20, locals := 40 }
set_option maxHeartbeats 4000000 in
set_option maxRecDepth 100000 in
theorem c_X1_init {l : Launch} {D : va_G} {cy : Nat → ClassId} {h0 : Nat} : Cn l yX1_init cX1_init 2 rm_X1_init D cy h0 [] (.inr (1, [.null, .int 0, .int 0, .int 0, .int 0, .int 0, .int 0])) 5 20 (S := Nat → Nat) (fun z => W_X1 cy h0 z) := by
  refine rc_entry (by decide) rfl (Nat.le_of_ble_eq_true rfl) ?_
  intro p e s m args below meth c hc hnm hAO hA
  show RM _ _ _ _ _ _ _ _ _ _ _ _ _ _ _ _ _ [(0, .ref h0)] []
  refine rm_aload_n hc dX1_init_0 rfl rfl ?_
  refine rc_obj hc dX1_init_1 ob_X1 (by decide) ⟨Nat.le_of_ble_eq_true rfl, Nat.le_of_ble_eq_true rfl⟩ ?_
  refine rm_aload_n hc dX1_init_4 rfl rfl ?_
  refine rm_iconst (v := 4) hc dX1_init_5 (by decide) ?_
  refine rc_newq (N := 4) (t0 := 3) (cA := cy 3) hc dX1_init_6 cl_X1_9 hAO.2.2.1 rfl hA (by decide) (by decide) (by decide) ⟨Nat.le_of_ble_eq_true rfl, Nat.le_of_ble_eq_true rfl⟩ (fun q_1 => rc_wn (ws' := [(h0, .inr (1, [.null, .int 0, .int 0, .int 0, .int 0, .int 0, .int 0])), (q_1, .inl (cy 3, 4, .inr (.inr (.inr (.inr (fun _ => none))))))]) (nc' := 1) (ns' := 4) rfl rfl rfl ?_)
  refine rc_putF hc hnm dX1_init_9 fl_X1_11 0 rfl (Nat.le_of_ble_eq_true rfl) fq_1_0 rfl rfl (rc_wn (ws' := [(h0, .inr (1, [.ref q_1, .int 0, .int 0, .int 0, .int 0, .int 0, .int 0])), (q_1, .inl (cy 3, 4, .inr (.inr (.inr (.inr (fun _ => none))))))]) (nc' := 1) (ns' := 4) rfl rfl rfl ?_)
  refine rm_iconst (v := 0) hc dX1_init_12 (by decide) ?_
  refine rm_istore_n (ls' := [(0, .ref h0), (1, .int 0)]) hc dX1_init_13 rfl (by omega) rfl ?_
  refine rm_iload_n hc dX1_init_14 rfl rfl ?_
  refine rm_iconst (v := 4) hc dX1_init_15 (by decide) ?_
  refine rm_icmp_ge hc dX1_init_16 (tgt := 38) rfl (fun h => absurd h (by decide)) (fun _ => ?_)
  refine rm_aload_n hc dX1_init_19 rfl rfl ?_
  refine rc_get hc dX1_init_20 fl_X1_11 0 rfl (v := .ref q_1) rfl ?_
  refine rm_iload_n hc dX1_init_23 rfl rfl ?_
  refine rc_new (fs := [.int 0, .int 0, .int 0, .int 0]) hc dX1_init_24 nl_X1_9 hA nv_5 ⟨Nat.le_of_ble_eq_true rfl, Nat.le_of_ble_eq_true rfl⟩ (fun q_2 => ?_)
  refine rm_dup hc dX1_init_27 rfl ?_
  refine rc_init (As := []) (rest := [.ref q_2, .int 0, .ref q_1]) hc dX1_init_28 (c_X5_init) il_X1_17 hAO hA rfl rfl (Nat.le_of_ble_eq_true rfl) ⟨⟨rfl, rfl⟩, Nat.le_of_ble_eq_true rfl, Nat.le_of_ble_eq_true rfl⟩ ⟨Nat.le_of_ble_eq_true rfl, Nat.le_of_ble_eq_true rfl⟩ (fun z_3 => rc_wn (ws' := [(h0, .inr (1, [.ref q_1, .int 0, .int 0, .int 0, .int 0, .int 0, .int 0])), (q_1, .inl (cy 3, 4, .inr (.inr (.inr (.inr (fun _ => none)))))), (q_2, .inr (5, [.int 0, .int (-1), .int (-1), .int (-1)]))]) (nc' := 2) (ns' := 8) rfl rfl rfl ?_)
  refine rc_astq (ci := 5) (r := (RX5, TX5, 4)) (t0 := 3) (i := 0) (vs := [.int 0, .int (-1), .int (-1), .int (-1)]) hc dX1_init_31 1 rfl rfl (List.mem_of_getElem? (i := 2) rfl) rfl (by decide) (by omega) (by omega) (rc_wn (ws' := [(h0, .inr (1, [.ref q_1, .int 0, .int 0, .int 0, .int 0, .int 0, .int 0])), (q_1, .inl (cy 3, 4, .inr (.inr (.inr (.inr (va_up (fun _ => none) 0 (some q_2))))))), (q_2, .inr (5, [.int 0, .int (-1), .int (-1), .int (-1)]))]) (nc' := 2) (ns' := 8) rfl rfl rfl ?_)
  refine rm_iinc (v := 1) (ls' := [(0, .ref h0), (1, .int 1)]) hc dX1_init_32 rfl (by decide) (by omega) rfl ?_
  refine rm_goto hc dX1_init_35 (tgt := 14) rfl ?_
  refine rm_iload_n hc dX1_init_14 rfl rfl ?_
  refine rm_iconst (v := 4) hc dX1_init_15 (by decide) ?_
  refine rm_icmp_ge hc dX1_init_16 (tgt := 38) rfl (fun h => absurd h (by decide)) (fun _ => ?_)
  refine rm_aload_n hc dX1_init_19 rfl rfl ?_
  refine rc_get hc dX1_init_20 fl_X1_11 0 rfl (v := .ref q_1) rfl ?_
  refine rm_iload_n hc dX1_init_23 rfl rfl ?_
  refine rc_new (fs := [.int 0, .int 0, .int 0, .int 0]) hc dX1_init_24 nl_X1_9 hA nv_5 ⟨Nat.le_of_ble_eq_true rfl, Nat.le_of_ble_eq_true rfl⟩ (fun q_4 => ?_)
  refine rm_dup hc dX1_init_27 rfl ?_
  refine rc_init (As := []) (rest := [.ref q_4, .int 1, .ref q_1]) hc dX1_init_28 (c_X5_init) il_X1_17 hAO hA rfl rfl (Nat.le_of_ble_eq_true rfl) ⟨⟨rfl, rfl⟩, Nat.le_of_ble_eq_true rfl, Nat.le_of_ble_eq_true rfl⟩ ⟨Nat.le_of_ble_eq_true rfl, Nat.le_of_ble_eq_true rfl⟩ (fun z_5 => rc_wn (ws' := [(h0, .inr (1, [.ref q_1, .int 0, .int 0, .int 0, .int 0, .int 0, .int 0])), (q_1, .inl (cy 3, 4, .inr (.inr (.inr (.inr (va_up (fun _ => none) 0 (some q_2))))))), (q_2, .inr (5, [.int 0, .int (-1), .int (-1), .int (-1)])), (q_4, .inr (5, [.int 0, .int (-1), .int (-1), .int (-1)]))]) (nc' := 3) (ns' := 12) rfl rfl rfl ?_)
  refine rc_astq (ci := 5) (r := (RX5, TX5, 4)) (t0 := 3) (i := 1) (vs := [.int 0, .int (-1), .int (-1), .int (-1)]) hc dX1_init_31 1 rfl rfl (List.mem_of_getElem? (i := 3) rfl) rfl (by decide) (by omega) (by omega) (rc_wn (ws' := [(h0, .inr (1, [.ref q_1, .int 0, .int 0, .int 0, .int 0, .int 0, .int 0])), (q_1, .inl (cy 3, 4, .inr (.inr (.inr (.inr (va_up (va_up (fun _ => none) 0 (some q_2)) 1 (some q_4))))))), (q_2, .inr (5, [.int 0, .int (-1), .int (-1), .int (-1)])), (q_4, .inr (5, [.int 0, .int (-1), .int (-1), .int (-1)]))]) (nc' := 3) (ns' := 12) rfl rfl rfl ?_)
  refine rm_iinc (v := 2) (ls' := [(0, .ref h0), (1, .int 2)]) hc dX1_init_32 rfl (by decide) (by omega) rfl ?_
  refine rm_goto hc dX1_init_35 (tgt := 14) rfl ?_
  refine rm_iload_n hc dX1_init_14 rfl rfl ?_
  refine rm_iconst (v := 4) hc dX1_init_15 (by decide) ?_
  refine rm_icmp_ge hc dX1_init_16 (tgt := 38) rfl (fun h => absurd h (by decide)) (fun _ => ?_)
  refine rm_aload_n hc dX1_init_19 rfl rfl ?_
  refine rc_get hc dX1_init_20 fl_X1_11 0 rfl (v := .ref q_1) rfl ?_
  refine rm_iload_n hc dX1_init_23 rfl rfl ?_
  refine rc_new (fs := [.int 0, .int 0, .int 0, .int 0]) hc dX1_init_24 nl_X1_9 hA nv_5 ⟨Nat.le_of_ble_eq_true rfl, Nat.le_of_ble_eq_true rfl⟩ (fun q_6 => ?_)
  refine rm_dup hc dX1_init_27 rfl ?_
  refine rc_init (As := []) (rest := [.ref q_6, .int 2, .ref q_1]) hc dX1_init_28 (c_X5_init) il_X1_17 hAO hA rfl rfl (Nat.le_of_ble_eq_true rfl) ⟨⟨rfl, rfl⟩, Nat.le_of_ble_eq_true rfl, Nat.le_of_ble_eq_true rfl⟩ ⟨Nat.le_of_ble_eq_true rfl, Nat.le_of_ble_eq_true rfl⟩ (fun z_7 => rc_wn (ws' := [(h0, .inr (1, [.ref q_1, .int 0, .int 0, .int 0, .int 0, .int 0, .int 0])), (q_1, .inl (cy 3, 4, .inr (.inr (.inr (.inr (va_up (va_up (fun _ => none) 0 (some q_2)) 1 (some q_4))))))), (q_2, .inr (5, [.int 0, .int (-1), .int (-1), .int (-1)])), (q_4, .inr (5, [.int 0, .int (-1), .int (-1), .int (-1)])), (q_6, .inr (5, [.int 0, .int (-1), .int (-1), .int (-1)]))]) (nc' := 4) (ns' := 16) rfl rfl rfl ?_)
  refine rc_astq (ci := 5) (r := (RX5, TX5, 4)) (t0 := 3) (i := 2) (vs := [.int 0, .int (-1), .int (-1), .int (-1)]) hc dX1_init_31 1 rfl rfl (List.mem_of_getElem? (i := 4) rfl) rfl (by decide) (by omega) (by omega) (rc_wn (ws' := [(h0, .inr (1, [.ref q_1, .int 0, .int 0, .int 0, .int 0, .int 0, .int 0])), (q_1, .inl (cy 3, 4, .inr (.inr (.inr (.inr (va_up (va_up (va_up (fun _ => none) 0 (some q_2)) 1 (some q_4)) 2 (some q_6))))))), (q_2, .inr (5, [.int 0, .int (-1), .int (-1), .int (-1)])), (q_4, .inr (5, [.int 0, .int (-1), .int (-1), .int (-1)])), (q_6, .inr (5, [.int 0, .int (-1), .int (-1), .int (-1)]))]) (nc' := 4) (ns' := 16) rfl rfl rfl ?_)
  refine rm_iinc (v := 3) (ls' := [(0, .ref h0), (1, .int 3)]) hc dX1_init_32 rfl (by decide) (by omega) rfl ?_
  refine rm_goto hc dX1_init_35 (tgt := 14) rfl ?_
  refine rm_iload_n hc dX1_init_14 rfl rfl ?_
  refine rm_iconst (v := 4) hc dX1_init_15 (by decide) ?_
  refine rm_icmp_ge hc dX1_init_16 (tgt := 38) rfl (fun h => absurd h (by decide)) (fun _ => ?_)
  refine rm_aload_n hc dX1_init_19 rfl rfl ?_
  refine rc_get hc dX1_init_20 fl_X1_11 0 rfl (v := .ref q_1) rfl ?_
  refine rm_iload_n hc dX1_init_23 rfl rfl ?_
  refine rc_new (fs := [.int 0, .int 0, .int 0, .int 0]) hc dX1_init_24 nl_X1_9 hA nv_5 ⟨Nat.le_of_ble_eq_true rfl, Nat.le_of_ble_eq_true rfl⟩ (fun q_8 => ?_)
  refine rm_dup hc dX1_init_27 rfl ?_
  refine rc_init (As := []) (rest := [.ref q_8, .int 3, .ref q_1]) hc dX1_init_28 (c_X5_init) il_X1_17 hAO hA rfl rfl (Nat.le_of_ble_eq_true rfl) ⟨⟨rfl, rfl⟩, Nat.le_of_ble_eq_true rfl, Nat.le_of_ble_eq_true rfl⟩ ⟨Nat.le_of_ble_eq_true rfl, Nat.le_of_ble_eq_true rfl⟩ (fun z_9 => rc_wn (ws' := [(h0, .inr (1, [.ref q_1, .int 0, .int 0, .int 0, .int 0, .int 0, .int 0])), (q_1, .inl (cy 3, 4, .inr (.inr (.inr (.inr (va_up (va_up (va_up (fun _ => none) 0 (some q_2)) 1 (some q_4)) 2 (some q_6))))))), (q_2, .inr (5, [.int 0, .int (-1), .int (-1), .int (-1)])), (q_4, .inr (5, [.int 0, .int (-1), .int (-1), .int (-1)])), (q_6, .inr (5, [.int 0, .int (-1), .int (-1), .int (-1)])), (q_8, .inr (5, [.int 0, .int (-1), .int (-1), .int (-1)]))]) (nc' := 5) (ns' := 20) rfl rfl rfl ?_)
  refine rc_astq (ci := 5) (r := (RX5, TX5, 4)) (t0 := 3) (i := 3) (vs := [.int 0, .int (-1), .int (-1), .int (-1)]) hc dX1_init_31 1 rfl rfl (List.mem_of_getElem? (i := 5) rfl) rfl (by decide) (by omega) (by omega) (rc_wn (ws' := [(h0, .inr (1, [.ref q_1, .int 0, .int 0, .int 0, .int 0, .int 0, .int 0])), (q_1, .inl (cy 3, 4, .inr (.inr (.inr (.inr (va_up (va_up (va_up (va_up (fun _ => none) 0 (some q_2)) 1 (some q_4)) 2 (some q_6)) 3 (some q_8))))))), (q_2, .inr (5, [.int 0, .int (-1), .int (-1), .int (-1)])), (q_4, .inr (5, [.int 0, .int (-1), .int (-1), .int (-1)])), (q_6, .inr (5, [.int 0, .int (-1), .int (-1), .int (-1)])), (q_8, .inr (5, [.int 0, .int (-1), .int (-1), .int (-1)]))]) (nc' := 5) (ns' := 20) rfl rfl rfl ?_)
  refine rm_iinc (v := 4) (ls' := [(0, .ref h0), (1, .int 4)]) hc dX1_init_32 rfl (by decide) (by omega) rfl ?_
  refine rm_goto hc dX1_init_35 (tgt := 14) rfl ?_
  refine rm_iload_n hc dX1_init_14 rfl rfl ?_
  refine rm_iconst (v := 4) hc dX1_init_15 (by decide) ?_
  refine rm_icmp_ge hc dX1_init_16 (tgt := 38) rfl (fun _ => ?_) (fun h => absurd (by decide) h)
  have hz : ∀ i, i < 4 → (va_up (va_up (va_up (va_up (fun _ => none) 0 (some q_2)) 1 (some q_4)) 2 (some q_6)) 3 (some q_8)) i = (fun i => some ((fun n => if n = 0 then q_1 else if n = 1 then q_2 else if n = 2 then q_4 else if n = 3 then q_6 else q_8) (i + 1))) i := fun i hi => by
    rcases (show i = 0 ∨ i = 1 ∨ i = 2 ∨ i = 3 by omega) with rfl | rfl | rfl | rfl <;> rfl
  exact rc_vret (W1 := fun z => W_X1 cy h0 z) (z := fun n => if n = 0 then q_1 else if n = 1 then q_2 else if n = 2 then q_4 else if n = 3 then q_6 else q_8) hc dX1_init_38 (pcons (fun _ h => h) (pcons (parr hz) (fun _ h => h))) (fun hD => dmap hD rfl)
