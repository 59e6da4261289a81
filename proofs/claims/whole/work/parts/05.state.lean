/-- a byte as Java has it -/
def by8 (n : Nat) : Int32 := (nI n).toInt8.toInt32
/-- the reference's cells: the object (place 0), words, lefts, rights, types, forms, sizes, work, digits, shifted (places 1 .. 9) -/
def mW (dT : Nat → ClassId) (mm : Nat → Nat) (wd lf rt : Nat → Int32) (tc : Nat) (ty : Nat → Int32) (F : Nat → Nat) (sz : Nat → Int32) (Wk : Nat → Nat) (wz : Nat) (dg : Nat → Nat) (dc : Nat) (sh : Nat → Nat) : va_W :=
  [(mm 0, .inr (10, [.ref (mm 1), .ref (mm 2), .ref (mm 3), .int (nI tc), .ref (mm 4), .ref (mm 5), .ref (mm 6), .ref (mm 7), .int (nI wz), .ref (mm 8), .int (nI dc), .ref (mm 9)])),
   (mm 1, .inl (dT 0, 2000, .inl wd)), (mm 2, .inl (dT 0, 2000, .inl lf)), (mm 3, .inl (dT 0, 2000, .inl rt)), (mm 4, .inl (dT 0, 16, .inl ty)), (mm 5, .inl (dT 1, 2560, .inl (fun k => by8 (F k)))), (mm 6, .inl (dT 0, 16, .inl sz)),
   (mm 7, .inl (dT 1, 400, .inl (fun k => by8 (Wk k)))), (mm 8, .inl (dT 0, 140, .inl (fun k => nI (dg k)))), (mm 9, .inl (dT 0, 140, .inl (fun k => nI (sh k))))]
def mA (mm : Nat → Nat) : Nat → Prop := fun q => ∃ k, k < 10 ∧ q = mm k
/-- the reference stands in the heap -/
def mAt (D : va_G) (dT : Nat → ClassId) (mm : Nat → Nat) (wd lf rt : Nat → Int32) (tc : Nat) (ty : Nat → Int32) (F : Nat → Nat) (sz : Nat → Int32) (Wk : Nat → Nat) (wz : Nat) (dg : Nat → Nat) (dc : Nat) (sh : Nat → Nat) (H : Heap) : Prop :=
  va_P D cls (mW dT mm wd lf rt tc ty F sz Wk wz dg dc sh) H ∧ va_D (mA mm) (mW dT mm wd lf rt tc ty F sz Wk wz dg dc sh)
abbrev inR (r : Int32) : Prop := 0 ≤ r ∧ r < 16
abbrev hasV (ty : Nat → Int32) (r : Int32) : Prop := inR r ∧ 0 ≤ ty r.toNatClampNeg
abbrev isNum (w : Int32) : Prop := w = 2 ∨ w = 3 ∨ w = 4 ∨ w = 8
abbrev isRw (w : Int32) : Prop := w = 5 ∨ w = 6 ∨ w = 7
abbrev isTr (w : Int32) : Prop := w = 12 ∨ w = 15 ∨ w = 16
theorem inR_ix {r : Int32} (h : inR r) : r = nI r.toNatClampNeg ∧ r.toNatClampNeg < 16 := by
  obtain ⟨h1, h2⟩ := h
  obtain ⟨j, hj, rfl⟩ := nI_of (x := r) (Int32.not_lt.mpr h1)
  rw [nI_clamp hj]
  refine ⟨rfl, ?_⟩
  rw [show (16 : Int32) = nI 16 from rfl] at h2
  exact (nI_ltI hj (by decide)).mp h2
theorem by8_and {n : Nat} (h : n < 256) : by8 n &&& 255 = nI n := sc_k8 n h
