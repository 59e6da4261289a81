/-- the list's empty row, a static -/
abbrev dZ (dd : Nat) (zA : Nat → Prop) (U : State) (H : Heap) : Prop := va_Z "java/util/ArrayList" "DEFAULTCAPACITY_EMPTY_ELEMENTDATA" "[Ljava/lang/Object;" (.ref dd) zA U H ∧ va_T (.object "java/lang/Object") dd 0 (fun _ => .null) zA U H
def z_PZ (D : va_G) (dT : Nat → ClassId) (av : List Value) (H : Heap) (dd : Nat) (zA : Nat → Prop) : Array Value → State → Prop := va_Pc av (fun U => U.heap = H ∧ z_K D dT U ∧ dZ dd zA U U.heap)
section ZZ
variable {D : va_G} {dT : Nat → ClassId} {av : List Value} {H : Heap} {dd : Nat} {zA A : Nat → Prop} {s : State} {locs : List Loc}
theorem z_blindZ : FrameBlind (z_PZ D dT av H dd zA) := fun a U g mk h => ⟨h.1, h.2.1, z_K.moved (u := U) (U := U.calling g mk a) (Vm.Alike.refl U.vm) h.2.2.1, ⟨va_Z.moved (u := U) (U := U.calling g mk a) (Vm.Alike.refl U.vm) h.2.2.2.1, va_T.moved (u := U) (U := U.calling g mk a) (Vm.Alike.refl U.vm) h.2.2.2.2⟩⟩
theorem z_dZ (hZ : dZ dd zA s s.heap) (hS : va_S A s.heap H locs) (hA : ∀ q, A q → zA q) {U : State} (hU : U.heap = H) (hW : s.vm.Alike U.vm) : dZ dd zA U U.heap := by
  rw [hU]
  have hk : ∀ q : Nat, q < s.heap.size → ¬ zA q → H[q]? = s.heap[q]? := fun q h1 h2 => hS.2.1 q h1 (fun h9 => h2 (hA q h9))
  exact ⟨(hZ.1.kept hk).moved hW, (hZ.2.kept hk).moved hW⟩
theorem z_preSZ (hK : z_K D dT s) (hZ : dZ dd zA s s.heap) (hS : va_S A s.heap H locs) (hA : ∀ q, A q → zA q) : PreS s H (z_PZ D dT av H dd zA) av := ⟨z_blindZ, fun U hU hW => ⟨rfl, hU, z_K.moved hW.alike hK, z_dZ hZ hS hA hU hW.alike⟩⟩
theorem z_preVZ {C : String} {b : Addr} {As : List Value} (hK : z_K D dT s) (hZ : dZ dd zA s s.heap) (hS : va_S A s.heap H locs) (hA : ∀ q, A q → zA q) (hr : ∃ cellB : Cell, H[b]? = some cellB ∧ cellB.vm.isStatics = false ∧ s.vm.findClass C = some cellB.cls) : PreV s H C b (z_PZ D dT (.ref b :: As) H dd zA) As := ⟨z_blindZ, hr, fun U hU hW => ⟨rfl, hU, z_K.moved hW.alike hK, z_dZ hZ hS hA hU hW.alike⟩⟩
end ZZ
/-- the first table of types -/
def tb0 : Nat → TR := fun t => (t, none, none, 1, decide (t < 9), !decide (t = 9), !decide (t = 9))
theorem tOK0 : tOK tb0 10 := ⟨by decide, by decide, fun t ht => by
  have h : t = 0 ∨ t = 1 ∨ t = 2 ∨ t = 3 ∨ t = 4 ∨ t = 5 ∨ t = 6 ∨ t = 7 ∨ t = 8 ∨ t = 9 := by omega
  rcases h with rfl | rfl | rfl | rfl | rfl | rfl | rfl | rfl | rfl | rfl <;> exact ⟨by decide, by decide, by decide, by decide, by decide, (fun k h => by cases h), (fun k h => by cases h), by decide, by decide, by decide, by decide, by decide, by decide⟩⟩
/-- the list of types on its way -/
def aT (D : va_G) (dT : Nat → ClassId) (a li n0 k : Nat) (H : Heap) : Prop := ∃ (B : Nat → Prop) (ed : Nat), B li ∧ B ed ∧ li ≠ ed ∧ ¬ B a ∧ (∀ q, B q → q < H.size ∧ n0 ≤ q) ∧ cT D dT (fun q => B q ∨ q = a) li ed tb0 k H
section AT
variable {D : va_G} {dT : Nat → ClassId} {a li n0 k : Nat} {H H1 : Heap}
theorem aT.up (h : aT D dT a li n0 k H) (hN : nU H H1) : aT D dT a li n0 k H1 := by
  obtain ⟨B, ed, b1, b2, b3, b4, b5, b6⟩ := h
  exact ⟨B, ed, b1, b2, b3, b4, fun q hq => ⟨Nat.lt_of_lt_of_le (b5 q hq).1 hN.1, (b5 q hq).2⟩, b6.up hN.2⟩
theorem aT_first {ed1 qt : Nat} {mc : Int32} (hli : va_at D cls (li, .inr (9, [.int mc, .ref ed1, .int (nI 1)])) H) (hed : va_at D cls (ed1, .inl (dT 2, 10, .inr (.inr (.inr (.inr (va_up (fun _ => none) 0 (some qt))))))) H) (oq : va_at D cls (qt, .inr (1, tyF (tb0 0))) H) (h1 : li ≠ ed1) (h2 : a ≠ li) (h3 : a ≠ ed1) (h4 : qt ≠ li) (h5 : qt ≠ ed1) (h6 : qt ≠ a) (h7 : n0 ≤ li) (h8 : n0 ≤ ed1) : aT D dT a li n0 1 H := by
  refine ⟨fun q => q = li ∨ q = ed1, ed1, Or.inl rfl, Or.inr rfl, h1, fun h => h.elim h2 h3, fun q hq => hq.elim (fun e => by rw [e]; exact ⟨hli.lt, h7⟩) (fun e => by rw [e]; exact ⟨hed.lt, h8⟩), mc, 10, _, hli, hed, by decide, by decide, by decide, fun t ht => ?_⟩
  have e : t = 0 := by omega
  subst e
  exact ⟨qt, rfl, fun h => h.elim (fun h => h.elim h4 h5) h6, oq⟩
theorem aT_next {B : Nat → Prop} {ed qt ed' cap' : Nat} {mc' : Int32} {g g' : Nat → Option Nat} (b1 : B li) (b2 : B ed) (b3 : li ≠ ed) (b4 : ¬ B a) (ha : a < H.size) (b5 : ∀ q, B q → q < H.size ∧ n0 ≤ q) (hty : ∀ t, t < k → ∃ x, g t = some x ∧ ¬ (B x ∨ x = a) ∧ va_at D cls (x, .inr (1, tyF (tb0 t))) H) (hz : H.size ≤ H1.size) (hf : ∀ q : Nat, q < H.size → ¬ (q = li ∨ q = ed ∨ H.size ≤ q) → H1[q]? = H[q]?) (oq : va_at D cls (qt, .inr (1, tyF (tb0 k))) H) (hnq : ¬ B qt) (hqa : qt ≠ a) (he : ed' = ed ∨ H.size ≤ ed')
    (hli : va_at D cls (li, .inr (9, [.int mc', .ref ed', .int (nI (k + 1))])) H1) (hed : va_at D cls (ed', .inl (dT 2, cap', .inr (.inr (.inr (.inr g'))))) H1) (hc1 : k + 1 ≤ cap') (hc2 : cap' ≤ 3000) (hg1 : ∀ j, j < k → g' j = g j) (hg2 : g' k = some qt) (hn0 : n0 ≤ H.size) : aT D dT a li n0 (k + 1) H1 := by
  have hk : ∀ q : Nat, q < H.size → ¬ B q → H1[q]? = H[q]? := fun q hq hn => hf q hq (fun h9 => h9.elim (fun e => hn (by rw [e]; exact b1)) (fun h8 => h8.elim (fun e => hn (by rw [e]; exact b2)) (fun h7 => absurd hq (Nat.not_lt.mpr h7))))
  have hB : ∀ q : Nat, q < H.size → (B q ∨ q = ed') → B q := fun q hq h9 => h9.elim (fun h => h) (fun e => he.elim (fun e2 => by rw [e, e2]; exact b2) (fun h8 => absurd hq (Nat.not_lt.mpr (by rw [e]; exact h8))))
  have hll := (b5 li b1).1
  refine ⟨fun q => B q ∨ q = ed', ed', Or.inl b1, Or.inr rfl, fun e => he.elim (fun e2 => b3 (e.trans e2)) (fun h8 => by omega), fun h9 => b4 (hB a ha h9), fun q hq => hq.elim (fun h => ⟨Nat.lt_of_lt_of_le (b5 q h).1 hz, (b5 q h).2⟩) (fun e => by rw [e]; exact ⟨hed.lt, he.elim (fun e2 => by rw [e2]; exact (b5 ed b2).2) (fun h8 => Nat.le_trans hn0 h8)⟩), mc', cap', g', hli, hed, hc1, by omega, hc2, fun t ht => ?_⟩
  rcases Nat.lt_or_ge t k with q | q
  · obtain ⟨x, a1, a2, a3⟩ := hty t q
    exact ⟨x, by rw [hg1 t q]; exact a1, fun h9 => a2 (h9.imp (hB x a3.lt) (fun h => h)), a3.kept (hk _ a3.lt (fun h9 => a2 (Or.inl h9)))⟩
  · have e : t = k := by omega
    subst e
    exact ⟨qt, hg2, fun h9 => h9.elim (fun h8 => hnq (hB qt oq.lt h8)) hqa, oq.kept (hk _ oq.lt hnq)⟩
theorem aT_fin {rg : Nat} (h : aT D dT a li n0 10 H) (hz : H.size ≤ H1.size) (o : ∀ q : Nat, q < H.size → q ≠ a → H1[q]? = H[q]?) (oa : va_at D cls (a, .inr (0, [.ref li, .ref rg])) H1) (org : va_at D cls (rg, .inl (dT 3, 16, .inr (.inr (.inr (.inr (fun _ => none)))))) H1) (hrg : H.size ≤ rg) (ha : a < H.size) (hn0 : n0 ≤ H.size) : ∃ (B : Nat → Prop) (ed : Nat), cI D dT B a rg li ed tb0 10 (fun _ => none) H1 ∧ ∀ q, B q → n0 ≤ q := by
  obtain ⟨B, ed, b1, b2, b3, b4, b5, mc, cap, g, h1, h2, h3, h4, h5, h6⟩ := h
  have hne : ∀ q, B q → q ≠ a := fun q hq e => b4 (e ▸ hq)
  have hll := (b5 li b1).1
  have hel := (b5 ed b2).1
  refine ⟨fun q => B q ∨ q = rg, ed, ⟨⟨fun q hq => hq.elim (fun h => Nat.lt_of_lt_of_le (b5 q h).1 hz) (fun e => by rw [e]; exact org.lt), Or.inr rfl, Or.inl b1, Or.inl b2, fun h => h.elim b4 (fun e => by omega), by omega, by omega, b3⟩, oa, ⟨fun _ => none, org, fun j hj => ⟨fun _ => rfl, fun v hv => by cases hv⟩⟩, mc, cap, g, h1.kept (o _ h1.lt (hne li b1)), h2.kept (o _ h2.lt (hne ed b2)), h3, h4, h5, fun t ht => ?_⟩, fun q hq => hq.elim (fun h => (b5 q h).2) (fun e => by rw [e]; exact Nat.le_trans hn0 hrg)⟩
  obtain ⟨x, x1, x2, x3⟩ := h6 t ht
  exact ⟨x, x1, fun h => h.elim (fun h => x2 (Or.inl h)) (fun e => absurd x3.lt (Nat.not_lt.mpr (by rw [show (x, (Sum.inr (1, tyF (tb0 t)) : va_E)).1 = rg from e]; exact hrg))), x3.kept (o _ x3.lt (fun e => x2 (Or.inr e)))⟩
end AT
