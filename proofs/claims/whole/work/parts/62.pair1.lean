/-! ===== a call on both sides ===== -/
/-- the law's wrapper and then the model's method, from a memory that holds what always holds: one thrown number, one answer, and what always holds -/
def PR (l : Launch) (D : va_G) (cy : Nat → ClassId) (ad : Ads) (x : Mem) (B : Nat) (yl : MethodName) (cl : ByteArray) (nl : Nat) (hh : List (Nat × Nat × Nat × Nat)) (rml : Room) (Asl : List Value) (ym : MethodName) (cm : ByteArray) (nm : Nat) (rmm : Room) (Asm : List Value) : Prop :=
  ∃ P1 : Int32 → Mem → Prop, Ctw l yl cl nl hh rml D cy ad Asl x P1 ∧ ∀ k y1, P1 k y1 → ∃ P2 : Int32 → Mem → Prop, Cti l ym cm nm (some .int) rmm D cy ad Asm y1 P2 ∧ ∀ b y2, P2 b y2 → y2 15 2 = k ∧ (k = 0 → y2 16 0 = b) ∧ INV y2 y2 (B + 60)
theorem TF_b {x : Mem} {v : Int32} {k : Nat} (h : k ≠ 15) : TF x v k = x k := funext fun n => (up_b _ _ _ h).trans (up_b _ _ _ h)
theorem TF_n {x : Mem} {v : Int32} {n : Nat} (h : n ≠ 2) : TF x v 15 n = x 15 n := (up_n _ _ h).trans (up_n _ _ h)
theorem INV.tf {x : Mem} {B B' : Nat} {v : Int32} (h : INV x x B) (hB : B ≤ B') : INV (TF x v) (TF x v) B' :=
  h.fr hB (fun k hk => TF_b (by omega)) (TF_b (by omega)) (TF_b (by omega)) (TF_b (by omega)) (TF_b (by omega)) (TF_b (by omega)) (TF_n (by omega)) (TF_n (by omega))
theorem INV.t0 {x : Mem} {B B' : Nat} (h : INV x x B) (hB : B ≤ B') : INV (T0 x) (T0 x) B' :=
  h.fr hB (fun k hk => T0_b (by omega)) (T0_b (by omega)) (T0_b (by omega)) (T0_b (by omega)) (T0_b (by omega)) (T0_b (by omega)) (up_n _ _ (by omega)) (up_n _ _ (by omega))
/-- a number in its range -/
theorem rg_or (v : Int32) (n : Nat) (hn : n < 2 ^ 20) : (v < 0 ∨ nI n ≤ v) ∨ ∃ j : Nat, j < n ∧ v = nI j := by
  by_cases h1 : v < 0
  · exact Or.inl (Or.inl h1)
  · by_cases h2 : nI n ≤ v
    · exact Or.inl (Or.inr h2)
    · exact Or.inr (irng rfl (by omega) h1 h2)
theorem inM_o {v : Int32} {n : Nat} {hi : Int32} (hh : hi = nI n) (hn : n < 2 ^ 20) (h : v < 0 ∨ nI (n + 1) ≤ v) : inM v 0 hi = 0 := by
  unfold inM
  by_cases h1 : v < 0
  · rw [if_pos h1]
  · rw [if_neg h1, if_pos ?_]
    have h2 := h.resolve_left h1
    obtain ⟨j, hj, rfl⟩ := nI_of h1
    rw [hh]
    have h3 := (nI_leI (by omega) hj).mp h2
    exact (nI_ltI (by omega) hj).mpr (by omega)
