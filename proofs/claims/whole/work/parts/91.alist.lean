/-- a contract's start that knows the mirror of rows of objects -/
def z_PM (D : va_G) (dT : Nat → ClassId) (av : List Value) (H : Heap) (mi : Nat) : Array Value → State → Prop := va_Pc av (fun U => U.heap = H ∧ z_K D dT U ∧ va_Mi "[Ljava/lang/Object;" mi U)
theorem z_preSM {D : va_G} {dT : Nat → ClassId} {av : List Value} {H : Heap} {mi : Nat} {s : State} (hK : z_K D dT s) (hM : va_Mi "[Ljava/lang/Object;" mi s) : PreS s H (z_PM D dT av H mi) av := ⟨fun a U g mk h => ⟨h.1, h.2.1, z_K.moved (u := U) (U := U.calling g mk a) (Vm.Alike.refl U.vm) h.2.2.1, va_Mi.moved (u := U) (U := U.calling g mk a) (Vm.Alike.refl U.vm) h.2.2.2⟩, fun U hU hW => ⟨rfl, hU, z_K.moved hW.alike hK, va_Mi.moved hW.alike hM⟩⟩
/-- a row's class, by name -/
theorem z_recvA {D : va_G} {dT : Nat → ClassId} {H : Heap} {s : State} {a n : Nat} {f : Nat → Option Nat} (hK : z_K D dT s) (ha : va_at D cls (a, .inl (dT 2, n, .inr (.inr (.inr (.inr f))))) H) : ∃ cell : Cell, H[a]? = some cell ∧ cell.vm.isStatics = false ∧ s.vm.findClass "[Ljava/lang/Object;" = some cell.cls := ⟨_, ha, rfl, va_nmO (hK.1.2 2 _ rfl).2 (by decide +kernel)⟩
/-- the next size of a full list -/
def gwn (n : Nat) : Nat := n + (if 1 < n / 2 then n / 2 else 1)
theorem gwn_le {n : Nat} (h : n ≤ 1999) : n + 1 ≤ gwn n ∧ gwn n ≤ 3000 := by
  unfold gwn
  split <;> omega
/-- what a list's row holds, is types -/
def allT (D : va_G) (g : Nat → Option Nat) (n : Nat) (H : Heap) : Prop := ∀ i, i < n → ∀ y, g i = some y → ∃ fs, va_at D cls (y, .inr (1, fs)) H
theorem z_anyT {D : va_G} {dT : Nat → ClassId} {H : Heap} {s : State} {y : Nat} {fs : List Value} (hK : z_K D dT s) (h : va_at D cls (y, .inr (1, fs)) H) : va_Any "java/lang/Object" s H y := z_any hK h rfl (C := "ValueTrees$Type") (List.mem_of_getElem? (i := 6) rfl)
/-- the class behind a change of its types -/
def cX (D : va_G) (dT : Nat → ClassId) (B : Nat → Prop) (vv rg li ed : Nat) (tb : Nat → TR) (tc : Nat) (RV : Nat → Option VT) (n0 : Nat) (H1 : Heap) : Prop := ∃ B' ed', (ed' = ed ∨ n0 ≤ ed') ∧ (∀ q, B q → B' q) ∧ (∀ q, q < n0 → B' q → B q) ∧ cI D dT B' vv rg li ed' tb tc RV H1
theorem cX.weak {D : va_G} {dT : Nat → ClassId} {B : Nat → Prop} {vv rg li ed : Nat} {tb : Nat → TR} {tc : Nat} {RV : Nat → Option VT} {n0 n1 : Nat} {H1 : Heap} (h : cX D dT B vv rg li ed tb tc RV n0 H1) (hn : n1 ≤ n0) : cX D dT B vv rg li ed tb tc RV n1 H1 := by
  obtain ⟨B', ed', h1, h2, h3, h4⟩ := h
  exact ⟨B', ed', h1.imp (fun h => h) (fun h => Nat.le_trans hn h), h2, fun q hq => h3 q (Nat.lt_of_lt_of_le hq hn), h4⟩
theorem cX.rf {D : va_G} {dT : Nat → ClassId} {B : Nat → Prop} {vv rg li ed : Nat} {tb : Nat → TR} {tc : Nat} {RV : Nat → Option VT} {n0 : Nat} {H1 : Heap} (h : cI D dT B vv rg li ed tb tc RV H1) : cX D dT B vv rg li ed tb tc RV n0 H1 := ⟨B, ed, Or.inl rfl, fun _ h => h, fun _ _ h => h, h⟩
/-- the class behind an add to its list -/
theorem cI.added {D : va_G} {dT : Nat → ClassId} {B : Nat → Prop} {vv rg li ed : Nat} {tb : Nat → TR} {tc : Nat} {RV : Nat → Option VT} {H H1 : Heap} {g : Nat → Option Nat} {r : TR} {q9 ed' cap' : Nat} {mc' : Int32} {g' : Nat → Option Nat}
    (h : cI D dT B vv rg li ed tb tc RV H) (hg : ∀ t, t < tc → ∃ a, g t = some a ∧ ¬ B a ∧ va_at D cls (a, .inr (1, tyF (tb t))) H) (hz : H.size ≤ H1.size) (hf : ∀ q : Nat, q < H.size → ¬ (q = li ∨ q = ed ∨ H.size ≤ q) → H1[q]? = H[q]?) (oq : va_at D cls (q9, .inr (1, tyF r)) H) (hnq : ¬ B q9) (he : ed' = ed ∨ H.size ≤ ed')
    (hli : va_at D cls (li, .inr (9, [.int mc', .ref ed', .int (nI (tc + 1))])) H1) (hed : va_at D cls (ed', .inl (dT 2, cap', .inr (.inr (.inr (.inr g'))))) H1) (hc1 : tc + 1 ≤ cap') (hc2 : cap' ≤ 3000) (hg1 : ∀ j, j < tc → g' j = g j) (hg2 : g' tc = some q9) : cX D dT B vv rg li ed (updT tb tc r) (tc + 1) RV H.size H1 := by
  obtain ⟨⟨b0, b1, b2, b3, b4, b5, b6, b7⟩, h1, h2, -⟩ := h
  have hk : ∀ q : Nat, q < H.size → ¬ B q → H1[q]? = H[q]? := fun q hq hn => hf q hq (fun h9 => h9.elim (fun e => hn (by rw [e]; exact b2)) (fun h8 => h8.elim (fun e => hn (by rw [e]; exact b3)) (fun h7 => absurd hq (Nat.not_lt.mpr h7))))
  have hB : ∀ q : Nat, q < H.size → (B q ∨ q = ed') → B q := fun q hq h9 => h9.elim (fun h => h) (fun e => he.elim (fun e2 => by rw [e, e2]; exact b3) (fun h8 => absurd hq (Nat.not_lt.mpr (by rw [e]; exact h8))))
  have hrg : rg < H.size := b0 rg b1
  refine ⟨fun q => B q ∨ q = ed', ed', he, fun q hq => Or.inl hq, hB, ⟨fun q hq => hq.elim (fun h9 => Nat.lt_of_lt_of_le (b0 q h9) hz) (fun e => by rw [e]; exact hed.lt), Or.inl b1, Or.inl b2, Or.inr rfl, fun h9 => b4 (hB vv h1.lt h9), b5, fun e => he.elim (fun e2 => b6 (e.trans e2)) (fun h8 => by omega), fun e => he.elim (fun e2 => b7 (e.trans e2)) (fun h8 => by have := b0 li b2; omega)⟩, h1.kept (hk _ h1.lt b4), ?_, mc', cap', g', hli, hed, hc1, by omega, hc2, fun t ht => ?_⟩
  · obtain ⟨fr, hfr, hRV⟩ := h2
    refine ⟨fr, hfr.kept (hf _ hrg (fun h9 => h9.elim b5 (fun h8 => h8.elim b6 (fun h7 => absurd hrg (Nat.not_lt.mpr h7))))), fun j hj => ⟨(hRV j hj).1, fun v hv => ?_⟩⟩
    obtain ⟨a, a1, a2⟩ := (hRV j hj).2 v hv
    exact ⟨a, a1, rq_keep hk hB v a2⟩
  · rcases Nat.lt_or_ge t tc with q | q
    · obtain ⟨a, a1, a2, a3⟩ := hg t q
      rw [updT_o q]
      exact ⟨a, by rw [hg1 t q]; exact a1, fun h9 => a2 (hB a a3.lt h9), a3.kept (hk _ a3.lt a2)⟩
    · have e : t = tc := by omega
      subst e
      rw [updT_s]
      exact ⟨q9, hg2, fun h9 => hnq (hB q9 oq.lt h9), oq.kept (hk _ oq.lt hnq)⟩
/-- the registers' values under a longer table -/
theorem vOK_ext {tb tb' : Nat → TR} {n n' : Nat} {RV : Nat → Option VT} (h : vOK tb n RV) (hO : tOK tb' n') (he : ∀ k, k < n → tb' k = tb k) (hn : n ≤ n') : vOK tb' n' RV := ⟨hO, fun j hj v hv => by
  obtain ⟨a1, a2, a3⟩ := h.2 j hj v hv
  exact ⟨Nat.lt_of_lt_of_le a1 hn, wty_ext h.1 he v 0 (vty v) a1 a2, a3⟩⟩
theorem va_D1 {A : Nat → Prop} {a : Nat} {x : va_E} (h : A a) : va_D A [(a, x)] := by
  refine ⟨fun i j p q hi hj _ => ?_, fun k q hk => ?_⟩
  · have h1 : i < 1 := (List.getElem?_eq_some_iff.mp hi).1
    have h2 : j < 1 := (List.getElem?_eq_some_iff.mp hj).1
    omega
  · have h1 : k < 1 := (List.getElem?_eq_some_iff.mp hk).1
    have e : k = 0 := by omega
    subst e
    cases hk
    exact h
theorem va_D2 {a b : Nat} {x y : va_E} (h : a ≠ b) : ∀ (i j : Nat) (p q : Nat × va_E), ([(a, x)] : va_W)[i]? = some p → ([(b, y)] : va_W)[j]? = some q → p.1 ≠ q.1 := by
  intro i j p q hi hj
  have h1 : i < 1 := (List.getElem?_eq_some_iff.mp hi).1
  have h2 : j < 1 := (List.getElem?_eq_some_iff.mp hj).1
  have e1 : i = 0 := by omega
  have e2 : j = 0 := by omega
  subst e1 e2
  cases hi
  cases hj
  exact h
theorem allT.off {D : va_G} {g : Nat → Option Nat} {n a : Nat} {H H1 : Heap} (h : allT D g n H) (o : ∀ x : Nat, x ≠ a → H1[x]? = H[x]?) (hn : ∀ i, i < n → ∀ y, g i = some y → y ≠ a) : allT D g n H1 := fun i hi y hy => by
  obtain ⟨fs, h9⟩ := h i hi y hy
  exact ⟨fs, h9.off o (hn i hi y hy)⟩
