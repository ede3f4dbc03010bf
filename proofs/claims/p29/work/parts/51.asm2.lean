/-! ===== the world put together: the whole list ===== -/
def ix7 : List (Nat × Nat × Nat) := [(7,4,0),(7,5,0),(7,20,0),(7,20,1),(7,20,2),(7,20,3)]
def ixT : List (Nat × Nat × Nat) := [(8,12,0),(9,13,0)]
def ixH : List (Nat × Nat × Nat) := ((((ixS 1 ++ ixS 2) ++ ixS 3) ++ ixS 4) ++ ixS 5) ++ ixS 6
def ixW : List (Nat × Nat × Nat) := (8,9,0) :: (((ixS 0 ++ ((8,10,0) :: (8,11,0) :: ixH)) ++ ixT) ++ ix7)
theorem mpW_app {cy : Nat → ClassId} {ad : Ads} {a b : List (Nat × Nat × Nat)} : mpW cy ad (a ++ b) = mpW cy ad a ++ mpW cy ad b := List.map_append
theorem mpW_cons {cy : Nat → ClassId} {ad : Ads} {i : Nat × Nat × Nat} {a : List (Nat × Nat × Nat)} : mpW cy ad (i :: a) = (ad i.1 i.2.1 i.2.2, EE cy ad ini i.1 i.2.1 i.2.2) :: mpW cy ad a := rfl
section ASM2
variable {cy : Nat → ClassId} {hx : Nat} {z : (Nat × (Nat → Nat → Nat)) × (Nat × (Nat → Nat → Nat → Nat)) × (Nat × Nat) × (Nat × (Nat → Nat))}
theorem as_H : mpW cy (adW hx z) ixH = ((((W_X6 cy (z.2.1.2 1 0 0) (z.2.1.2 1) ++ W_X6 cy (z.2.1.2 2 0 0) (z.2.1.2 2)) ++ W_X6 cy (z.2.1.2 3 0 0) (z.2.1.2 3)) ++ W_X6 cy (z.2.1.2 4 0 0) (z.2.1.2 4)) ++ W_X6 cy (z.2.1.2 5 0 0) (z.2.1.2 5)) ++ W_X6 cy (z.2.1.2 6 0 0) (z.2.1.2 6) := by
  unfold ixH
  rw [mpW_app, mpW_app, mpW_app, mpW_app, mpW_app, as_1, as_2, as_3, as_4, as_5, as_6]
theorem as_W : mpW cy (adW hx z) ixW = W_X8 cy hx z := by
  unfold ixW
  rw [mpW_cons, mpW_app, mpW_app, mpW_app, mpW_cons, mpW_cons, as_H, as_0]
  rw [show mpW cy (adW hx z) ixT = W_X7 cy z.2.2.1.1 z.2.2.1.2 from as_t, show mpW cy (adW hx z) ix7 = W_X1 cy z.2.2.2.1 z.2.2.2.2 from as_7]
  rfl
end ASM2
theorem ixW_nd : ixW.Nodup := by decide +kernel
theorem ixW_in : ∀ i ∈ idx, i ∈ ixW := by decide +kernel
theorem asm {A : Nat → Prop} {D : va_G} {cl : List vw_C} {cy : Nat → ClassId} {ad : Ads} {H : Heap} (hP : va_P D cl (mpW cy ad ixW) H) (hD : va_D A (mpW cy ad ixW)) : IJ ad ∧ va_P D cl (wl cy ad ini) H ∧ ∀ i ∈ idx, A (ad i.1 i.2.1 i.2.2) := by
  have key : ∀ i ∈ idx, ∃ n : Nat, ixW[n]? = some i ∧ (mpW cy ad ixW)[n]? = some (ad i.1 i.2.1 i.2.2, EE cy ad ini i.1 i.2.1 i.2.2) := fun i hi => by
    obtain ⟨n, hn⟩ := List.getElem?_of_mem (ixW_in i hi)
    refine ⟨n, hn, ?_⟩
    unfold mpW
    rw [List.getElem?_map, hn]
    rfl
  refine ⟨fun i hi j hj h => ?_, fun k q hk => ?_, fun i hi => ?_⟩
  · obtain ⟨n1, a1, a2⟩ := key i hi
    obtain ⟨n2, b1, b2⟩ := key j hj
    have e := hD.1 n1 n2 _ _ a2 b2 h
    rw [e, b1] at a1
    exact (Option.some.inj a1).symm
  · obtain ⟨i, h1, h2, rfl⟩ := wl_at hk
    obtain ⟨n, a1, a2⟩ := key i h2
    exact hP n _ a2
  · obtain ⟨n, a1, a2⟩ := key i hi
    exact hD.2 n _ a2
