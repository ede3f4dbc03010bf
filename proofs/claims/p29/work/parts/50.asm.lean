/-! ===== the world put together ===== -/
def ini : Mem := fun b n => if b < 8 then stI n else 0
def adW (hx : Nat) (z : (Nat × (Nat → Nat → Nat)) × (Nat × (Nat → Nat → Nat → Nat)) × (Nat × Nat) × (Nat × (Nat → Nat))) : Ads := fun k c j =>
  if c = 0 then (match k with | 0 => z.1.1 | n + 1 => z.2.1.2 (n + 1) 0 0)
  else if k = 0 then (if c = 5 then z.1.2 (30 + j) 0 else if c < 20 then z.1.2 c j else z.1.2 (c + 10) (j + 1))
  else if k < 7 then (if c = 5 then z.2.1.2 k (30 + j) 0 else if c < 20 then z.2.1.2 k c j else z.2.1.2 k (c + 10) (j + 1))
  else if k = 7 then (if c = 4 then z.2.2.2.1 else if c = 5 then z.2.2.2.2 0 else z.2.2.2.2 (j + 1))
  else if k = 8 then (if c = 9 then hx else if c = 10 then z.2.1.1 else if c = 11 then z.2.1.2 0 0 0 else z.2.2.1.1)
  else if k = 9 then z.2.2.1.2 else 0
def ixS (k : Nat) : List (Nat × Nat × Nat) := [(k,0,0),(k,1,0),(k,2,0),(k,2,1),(k,2,2),(k,2,3),(k,3,0),(k,4,0),(k,5,0),(k,20,0),(k,20,1),(k,20,2),(k,20,3),(k,4,1),(k,5,1),(k,21,0),(k,21,1),(k,21,2),(k,21,3),(k,4,2),(k,5,2),(k,22,0),(k,22,1),(k,22,2),(k,22,3),(k,6,0),(k,7,0),(k,8,0)]
abbrev mpW (cy : Nat → ClassId) (ad : Ads) (L : List (Nat × Nat × Nat)) : va_W := L.map fun i => (ad i.1 i.2.1 i.2.2, EE cy ad ini i.1 i.2.1 i.2.2)
section ASM
variable {cy : Nat → ClassId} {hx : Nat} {z : (Nat × (Nat → Nat → Nat)) × (Nat × (Nat → Nat → Nat → Nat)) × (Nat × Nat) × (Nat × (Nat → Nat))}
theorem as_0 : mpW cy (adW hx z) (ixS 0) = W_X6 cy z.1.1 z.1.2 := rfl
theorem as_1 : mpW cy (adW hx z) (ixS 1) = W_X6 cy (z.2.1.2 1 0 0) (z.2.1.2 1) := rfl
theorem as_2 : mpW cy (adW hx z) (ixS 2) = W_X6 cy (z.2.1.2 2 0 0) (z.2.1.2 2) := rfl
theorem as_3 : mpW cy (adW hx z) (ixS 3) = W_X6 cy (z.2.1.2 3 0 0) (z.2.1.2 3) := rfl
theorem as_4 : mpW cy (adW hx z) (ixS 4) = W_X6 cy (z.2.1.2 4 0 0) (z.2.1.2 4) := rfl
theorem as_5 : mpW cy (adW hx z) (ixS 5) = W_X6 cy (z.2.1.2 5 0 0) (z.2.1.2 5) := rfl
theorem as_6 : mpW cy (adW hx z) (ixS 6) = W_X6 cy (z.2.1.2 6 0 0) (z.2.1.2 6) := rfl
theorem as_7 : mpW cy (adW hx z) [(7,4,0),(7,5,0),(7,20,0),(7,20,1),(7,20,2),(7,20,3)] = W_X1 cy z.2.2.2.1 z.2.2.2.2 := rfl
theorem as_t : mpW cy (adW hx z) [(8,12,0),(9,13,0)] = W_X7 cy z.2.2.1.1 z.2.2.1.2 := rfl
end ASM
