theorem fAt_nil {F : Nat → Nat} {a : Nat} : fAt F a [] ↔ True := ⟨fun _ => trivial, fun _ k hk => absurd hk (Nat.not_lt_zero k)⟩
theorem fAt_s4 {F : Nat → Nat} {a n : Nat} {x : List Nat} : fAt F a (size4 n ++ x) ↔ fAt F a (size4 n) ∧ fAt F (a + 4) x := fAt_app
theorem f_num {F : Nat → Nat} {a t : Nat} {z : Int} : fAt F a (cs (.pow (.num z) t)) ↔ F a = 0 ∧ fAt F (a + 1) (nser z) := fAt_cons
theorem l_num {t : Nat} {z : Int} : (cs (.pow (.num z) t)).length = 1 + (nser z).length := by simp [cs, hdr]; omega
theorem f_row {F : Nat → Nat} {a t k : Nat} : fAt F a (cs (.pow (.natCast k) t)) ↔ F a = (if t = 6 then 10 else 1) ∧ fAt F (a + 1) (size4 (k % 16)) ∧ fAt F (a + 5) (rser k) := by
  show fAt F a ((_ :: size4 _) ++ rser k) ↔ _
  rw [List.cons_append, fAt_cons, fAt_s4]
theorem l_row {t k : Nat} : (cs (.pow (.natCast k) t)).length = 5 + k % 16 := by simp [cs, hdr, size4, rser_len]; omega
theorem f_var {F : Nat → Nat} {a t i : Nat} : fAt F a (cs (.pow (.var i) t)) ↔ F a = 3 ∧ F (a + 1) = vtag i t := by
  show fAt F a ([3, vtag i t] ++ []) ↔ _
  rw [List.append_nil, fAt_cons, fAt_cons, fAt_nil]; simp
theorem l_var {t i : Nat} : (cs (.pow (.var i) t)).length = 2 := rfl
theorem f_sub {F : Nat → Nat} {a t : Nat} {x v : VT} : fAt F a (cs (.pow (.sub x v) t)) ↔ F a = 5 ∧ F (a + 1) = tg x ∧ fAt F (a + 2) (cs v) := by
  show fAt F a ([5, tg x] ++ cs v) ↔ _
  rw [fAt_app, fAt_cons, fAt_cons, fAt_nil]; simp [and_assoc]
theorem l_sub {t : Nat} {x v : VT} : (cs (.pow (.sub x v) t)).length = 2 + (cs v).length := by simp [cs, hdr]; omega
theorem f_add {F : Nat → Nat} {a t : Nat} {x v : VT} : fAt F a (cs (.pow (.add x v) t)) ↔ F a = 7 ∧ F (a + 1) = 7 ∧ fAt F (a + 2) (cs x) ∧ fAt F (a + 2 + (cs x).length) (cs v) := by
  show fAt F a ([7, 7] ++ (cs x ++ cs v)) ↔ _
  rw [fAt_app, fAt_cons, fAt_cons, fAt_nil, fAt_app]; simp [and_assoc]
theorem l_add {t : Nat} {x v : VT} : (cs (.pow (.add x v) t)).length = 2 + (cs x).length + (cs v).length := by simp [cs, hdr]; omega
theorem f_nil {F : Nat → Nat} {a t : Nat} {k : Int} : fAt F a (cs (.pow (.intCast k) t)) ↔ F a = 2 ∧ fAt F (a + 1) (size4 0) ∧ fAt F (a + 5) ([] : List Nat) := by
  show fAt F a ((2 :: size4 0) ++ []) ↔ _
  rw [List.cons_append, fAt_cons, fAt_s4]
theorem l_nil {t : Nat} {k : Int} : (cs (.pow (.intCast k) t)).length = 5 := rfl
theorem f_mul {F : Nat → Nat} {a t : Nat} {x v : VT} : fAt F a (cs (.pow (.mul x v) t)) ↔ F a = 2 ∧ fAt F (a + 1) (size4 (cs (.mul x v)).length) ∧ fAt F (a + 5) (cs (.mul x v)) := by
  show fAt F a ((2 :: size4 (cs (.mul x v)).length) ++ cs (.mul x v)) ↔ _
  rw [List.cons_append, fAt_cons, fAt_s4]
theorem l_mul {t : Nat} {x v : VT} : (cs (.pow (.mul x v) t)).length = 5 + (cs (.mul x v)).length := by
  show ((2 :: size4 (cs (.mul x v)).length) ++ cs (.mul x v)).length = _
  simp [size4]; omega
theorem f_neg {F : Nat → Nat} {a t : Nat} {x : VT} : fAt F a (cs (.pow (.neg x) t)) ↔ F a = 2 ∧ fAt F (a + 1) (size4 (cs x).length) ∧ fAt F (a + 5) (cs x) := by
  show fAt F a ((2 :: size4 (cs x).length) ++ cs x) ↔ _
  rw [List.cons_append, fAt_cons, fAt_s4]
theorem l_neg {t : Nat} {x : VT} : (cs (.pow (.neg x) t)).length = 5 + (cs x).length := by
  show ((2 :: size4 (cs x).length) ++ cs x).length = _
  simp [size4]; omega
/-- a type's left and right type, where its word has them -/
theorem tl_some {tb : Nat → TR} {n t : Nat} (hO : tOK tb n) (h : t < n) (h10 : 10 ≤ tW (tb t)) : tL (tb t) = some (lt_ tb t) ∧ lt_ tb t < t ∧ tP (tb (lt_ tb t)) < tP (tb t) := by
  obtain ⟨r1, r2, r2b, r3, r4, r5, r6, r7, r8⟩ := hO.2.2 t h
  cases hL : tL (tb t) with
  | none => exact absurd (r3.mp hL) (by omega)
  | some k =>
    have e : lt_ tb t = k := by unfold lt_; rw [hL]; rfl
    rw [e]
    refine ⟨rfl, r5 k hL, ?_⟩
    rw [r7, hL]
    show tP (tb k) < 1 + tP (tb k) + _
    omega
theorem tr_some {tb : Nat → TR} {n t : Nat} (hO : tOK tb n) (h : t < n) (h14 : 14 ≤ tW (tb t)) : tR (tb t) = some (rt_ tb t) ∧ rt_ tb t < t ∧ tP (tb (rt_ tb t)) < tP (tb t) := by
  obtain ⟨r1, r2, r2b, r3, r4, r5, r6, r7, r8⟩ := hO.2.2 t h
  cases hR : tR (tb t) with
  | none => exact absurd (r4.mp hR) (by omega)
  | some k =>
    have e : rt_ tb t = k := by unfold rt_; rw [hR]; rfl
    rw [e]
    refine ⟨rfl, r6 k hR, ?_⟩
    rw [r7, hR]
    show tP (tb k) < 1 + _ + tP (tb k)
    omega
