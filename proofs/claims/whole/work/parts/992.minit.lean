/-- ten addresses as a function -/
def m10 (a q1 q2 q3 q4 q5 q6 q7 q8 q9 : Nat) : Nat → Nat := fun k => match k with | 0 => a | 1 => q1 | 2 => q2 | 3 => q3 | 4 => q4 | 5 => q5 | 6 => q6 | 7 => q7 | 8 => q8 | _ => q9
theorem inc_lt {mm : Nat → Nat} {n : Nat} (h : ∀ i, i < n → mm i < mm (i + 1)) : ∀ j i, i < j → j ≤ n → mm i < mm j := by
  intro j
  induction j with
  | zero => intro i hi; omega
  | succ j ih =>
    intro i hi hj
    have h1 := h j (by omega)
    rcases Nat.lt_or_ge i j with q | q
    · exact Nat.lt_trans (ih i q (by omega)) h1
    · have e : i = j := by omega
      rw [e]; exact h1
section MI
variable {D : va_G} {dT : Nat → ClassId} {mm : Nat → Nat} {wd lf rt : Nat → Int32} {tc : Nat} {ty : Nat → Int32} {F : Nat → Nat} {sz : Nat → Int32} {Wk : Nat → Nat} {wz : Nat} {dg : Nat → Nat} {dc : Nat} {sh : Nat → Nat} {H : Heap}
theorem mW_at {k : Nat} {q : Nat × va_E} (h : (mW dT mm wd lf rt tc ty F sz Wk wz dg dc sh)[k]? = some q) : k < 10 ∧ q.1 = mm k := by
  have hk : k < 10 := (List.getElem?_eq_some_iff.mp h).1
  refine ⟨hk, ?_⟩
  have hc : k = 0 ∨ k = 1 ∨ k = 2 ∨ k = 3 ∨ k = 4 ∨ k = 5 ∨ k = 6 ∨ k = 7 ∨ k = 8 ∨ k = 9 := by omega
  rcases hc with rfl | rfl | rfl | rfl | rfl | rfl | rfl | rfl | rfl | rfl <;> (cases h; rfl)
theorem mD_inc (h : ∀ i, i < 9 → mm i < mm (i + 1)) : va_D (mA mm) (mW dT mm wd lf rt tc ty F sz Wk wz dg dc sh) := by
  refine ⟨fun i j p q hi hj e => ?_, fun k q hk => ⟨k, (mW_at hk).1, (mW_at hk).2⟩⟩
  obtain ⟨i1, i2⟩ := mW_at hi
  obtain ⟨j1, j2⟩ := mW_at hj
  rcases Nat.lt_trichotomy i j with q9 | q9 | q9
  · have := inc_lt h j i q9 (by omega); omega
  · exact q9
  · have := inc_lt h i j q9 (by omega); omega
theorem M_fin {a q1 q2 q3 q4 q5 q6 q7 q8 q9 : Nat} (oa : va_at D cls (a, .inr (10, [.ref q1, .ref q2, .ref q3, .int 10, .ref q4, .ref q5, .ref q6, .ref q7, .int 0, .ref q8, .int 0, .ref q9])) H) (o1 : va_at D cls (q1, .inl (dT 0, 2000, .inl wd)) H) (o2 : va_at D cls (q2, .inl (dT 0, 2000, .inl lf)) H) (o3 : va_at D cls (q3, .inl (dT 0, 2000, .inl rt)) H) (o4 : va_at D cls (q4, .inl (dT 0, 16, .inl ty)) H) (o5 : va_at D cls (q5, .inl (dT 1, 2560, .inl (fun _ => 0))) H) (o6 : va_at D cls (q6, .inl (dT 0, 16, .inl sz)) H) (o7 : va_at D cls (q7, .inl (dT 1, 400, .inl (fun _ => 0))) H) (o8 : va_at D cls (q8, .inl (dT 0, 140, .inl (fun _ => 0))) H) (o9 : va_at D cls (q9, .inl (dT 0, 140, .inl (fun _ => 0))) H)
    (l0 : a < q1) (l1 : q1 < q2) (l2 : q2 < q3) (l3 : q3 < q4) (l4 : q4 < q5) (l5 : q5 < q6) (l6 : q6 < q7) (l7 : q7 < q8) (l8 : q8 < q9) (hT : mT tb0 10 wd lf rt) (hty : ∀ j, j < 16 → ty j = -1) : mI D dT (m10 a q1 q2 q3 q4 q5 q6 q7 q8 q9) tb0 10 (fun _ => none) H := by
  have e0 : ∀ j : Nat, (0 : Int32) = by8 ((fun _ => 0 : Nat → Nat) j) := fun _ => (show (0 : Int32) = by8 0 by decide)
  have e1 : ∀ j : Nat, (0 : Int32) = nI ((fun _ => 0 : Nat → Nat) j) := fun _ => rfl
  refine ⟨wd, lf, rt, ty, fun _ => 0, sz, fun _ => 0, 0, fun _ => 0, 0, fun _ => 0, ⟨fun k q hk => ?_, mD_inc (fun i hi => ?_)⟩, tOK0, hT, ⟨fun _ => (show 0 < 256 by decide), fun j hj => ⟨fun _ => hty j hj, fun v hv => by cases hv⟩⟩, fun _ => (show 0 < 256 by decide)⟩
  · have hk9 : k < 10 := (List.getElem?_eq_some_iff.mp hk).1
    have hc : k = 0 ∨ k = 1 ∨ k = 2 ∨ k = 3 ∨ k = 4 ∨ k = 5 ∨ k = 6 ∨ k = 7 ∨ k = 8 ∨ k = 9 := by omega
    rcases hc with rfl | rfl | rfl | rfl | rfl | rfl | rfl | rfl | rfl | rfl
    · cases hk; exact oa
    · cases hk; exact o1
    · cases hk; exact o2
    · cases hk; exact o3
    · cases hk; exact o4
    · cases hk; exact at_exti o5 (fun j _ => e0 j)
    · cases hk; exact o6
    · cases hk; exact at_exti o7 (fun j _ => e0 j)
    · cases hk; exact at_exti o8 (fun j _ => e1 j)
    · cases hk; exact at_exti o9 (fun j _ => e1 j)
  · have hc : i = 0 ∨ i = 1 ∨ i = 2 ∨ i = 3 ∨ i = 4 ∨ i = 5 ∨ i = 6 ∨ i = 7 ∨ i = 8 := by omega
    rcases hc with rfl | rfl | rfl | rfl | rfl | rfl | rfl | rfl | rfl
    · exact l0
    · exact l1
    · exact l2
    · exact l3
    · exact l4
    · exact l5
    · exact l6
    · exact l7
    · exact l8
theorem m10_ge {a q1 q2 q3 q4 q5 q6 q7 q8 q9 n : Nat} (h1 : n ≤ q1) (l1 : q1 < q2) (l2 : q2 < q3) (l3 : q3 < q4) (l4 : q4 < q5) (l5 : q5 < q6) (l6 : q6 < q7) (l7 : q7 < q8) (l8 : q8 < q9) : ∀ k, 0 < k → k < 10 → n ≤ m10 a q1 q2 q3 q4 q5 q6 q7 q8 q9 k := by
  intro k h0 hk
  have hc : k = 1 ∨ k = 2 ∨ k = 3 ∨ k = 4 ∨ k = 5 ∨ k = 6 ∨ k = 7 ∨ k = 8 ∨ k = 9 := by omega
  rcases hc with rfl | rfl | rfl | rfl | rfl | rfl | rfl | rfl | rfl
  · show n ≤ q1; omega
  · show n ≤ q2; omega
  · show n ≤ q3; omega
  · show n ≤ q4; omega
  · show n ≤ q5; omega
  · show n ≤ q6; omega
  · show n ≤ q7; omega
  · show n ≤ q8; omega
  · show n ≤ q9; omega
end MI
