/-! ===== what the Statement gives at the law's entry ===== -/
theorem ao_K {s : State} {C : String} {A : Array Value} (h : (Cond.arrayOver (.object C)).before A s = true) : ∃ cA : ClassId, ArrOfT s cA (.object C) ∧ va_RA s cA (.object C) := by
  obtain ⟨comp, cA, kA, h1, h2, h3, h4, h5⟩ := Cond.arrayOver_spec h
  exact ⟨cA, fun n z => ⟨fun k h => (by cases h), kA, h3, comp, h4⟩, kA, comp, h3, h4, h1, h5⟩
theorem ac_Ki {s : State} {A : Array Value} (h : (Cond.arrayClass .int).before A s = true) : ∃ cA : ClassId, ArrOfT s cA .int ∧ va_RA s cA .int := by
  obtain ⟨cA, kA, comp, h1, h2, h3⟩ := Cond.arrayClass_spec h
  exact ⟨cA, fun n z => ⟨fun k h => (by cases h), kA, h2, comp, h3⟩, h1⟩
theorem inst_all : ∀ q ∈ vwCl, Cond.instantiable q.1 q.2.2 ∈ lw_tbl := by decide +kernel
theorem nest_t : ∀ q ∈ nestL, Cond.methodLinkNest q.1 q.2.1 q.2.2.1 q.2.2.2 ∈ lw_tbl ∧ (Cond.methodLinkNest q.1 q.2.1 q.2.2.1 q.2.2.2).onTables = true := by decide +kernel
theorem nc_t : ∀ q ∈ ncL, Cond.not (.castable q.1 q.2) ∈ flatC (Jvm.Cond.and given_1 narrow_1) := by decide +kernel
theorem ir_a : Cond.isRef (.static Bundle.tN "UNASSIGNED_STACK" Bundle.steD) ∈ flatC (Jvm.Cond.and given_1 narrow_1) := by decide +kernel
theorem ir_b : Cond.isRef (.static Bundle.tN "SUPPRESSED_SENTINEL" Bundle.listD) ∈ flatC (Jvm.Cond.and given_1 narrow_1) := by decide +kernel
theorem ls_a : Cond.laysStatic Bundle.tN "UNASSIGNED_STACK" Bundle.steD ∈ lw_tbl := List.mem_of_getElem? (i := 264) (by decide +kernel)
theorem ls_b : Cond.laysStatic Bundle.tN "SUPPRESSED_SENTINEL" Bundle.listD ∈ lw_tbl := List.mem_of_getElem? (i := 266) (by decide +kernel)
theorem ls_c : Cond.initialized Bundle.tN ∈ lw_tbl := List.mem_of_getElem? (i := 17) (by decide +kernel)
theorem ar_0 : Cond.arrayClass .int ∈ lw_tbl := List.mem_of_getElem? (i := 138) (by decide +kernel)
theorem ar_1 : Cond.arrayOver (.object "RollingFob$Fob") ∈ lw_tbl := List.mem_of_getElem? (i := 41) (by decide +kernel)
theorem ar_2 : Cond.arrayOver (.object "RollingFob$Door") ∈ lw_tbl := List.mem_of_getElem? (i := 68) (by decide +kernel)
theorem ar_3 : Cond.arrayOver (.object "RollingFob$Slot") ∈ lw_tbl := List.mem_of_getElem? (i := 75) (by decide +kernel)
theorem ar_4 : Cond.arrayOver (.object "RollingFob$State") ∈ lw_tbl := List.mem_of_getElem? (i := 190) (by decide +kernel)
theorem no_tr {l : Launch} (h : l.flags = flags0) : l.stackTraces = false := by
  unfold Launch.stackTraces
  rw [h]
  decide +kernel
