section ZN
variable {p : Program} {l : Launch} {e : Env} {R : Room} {s : State} {m : MethodId} {args : Array Value} {below : List Frame} {meth : Method} {c : Code} {H : Heap} {locs : List Loc} {cells slots : Nat} {Q : State → Prop}
variable {cc : ByteArray} {pc : Nat} {ls : Array Slot} {rest : List Value} {D : va_G} {A : Nat → Prop} {a : Nat} {dT : Nat → ClassId} {H0 : Heap}
theorem z_grew {H1 : Heap} (hS : va_S A H0 H locs) (z : H1.size = H.size + 1) (o : ∀ x : Nat, x < H.size → H1[x]? = H[x]?) : va_S A H0 H1 locs := ⟨Nat.le_trans hS.1 (by omega), fun x h1 h2 => (o x (Nat.lt_of_lt_of_le h1 hS.1)).trans (hS.2.1 x h1 h2), hS.2.2⟩
/-- a new object -/
theorem z_newo (hx : p.tables.exec = Jvm.exec) (hb : c.code = cc) {own C : String} {T : u_T} {N ci index : Nat} {Ts : List Cond} (hts : ∀ w ∈ Ts, w.before args s = true) (hin : ∀ w ∈ u_ws C T N, w ∈ Ts) (ty : Nat → FieldType) (hty : ∀ k, k < N → parseFieldDescriptor (T k).2.2.1 = some (ty k)) (hown : s.vm.findClass own = some m.cls) (hcl : (Cond.classLink own index C).before args s = true) (hinst : (Cond.instantiable C N).before args s = true) (hini : (Cond.initialized C).before args s = true)
    (hK : z_K D dT s) (hS : va_S A H0 H locs) (hc : cls[ci]? = some (C, T, N)) {fs : List Value} (hfs : ∀ j, j < N → defaultValue (ty j) = vp_V fs j) (hcells : cells + 1 ≤ R.cells) (hslots : slots + N ≤ R.slots) (hdg : decode cc pc = .ok (.new index, 3))
    (kk : ∀ (q : Nat) (H1 : Heap), q = H.size → H1.size = H.size + 1 → va_at D cls (q, .inr (ci, fs)) H1 → (∀ x : Nat, x < H.size → H1[x]? = H[x]?) → va_S A H0 H1 locs → W p l e R s m args below meth c H1 locs (cells + 1) (slots + N) Q (F0 m (pc + 3) ls (.ref q :: rest))) : W p l e R s m args below meth c H locs cells slots Q (F0 m pc ls rest) := by
  have hKn := hK.1.1 ci _ hc
  refine W.newcK hx hb hown hcl hinst hini rfl hdg hcells hslots hKn.2.1 rfl fun H1 kC hkC e1 z1 o1 => ?_
  exact kk H.size H1 rfl z1 ⟨_, hc, (u_born ty hts hin hKn hkC e1 hty).to hfs⟩ o1 (z_grew hS z1 o1)
/-- a new row of ints -/
theorem z_newi (hx : p.tables.exec = Jvm.exec) (hb : c.code = cc) (harr : (Cond.arrayClass .int).before args s = true) (hK : z_K D dT s) (hS : va_S A H0 H locs) {n : Int32} (N : Nat) (hn : n = nI N) (hN : N ≤ 100000) (hcells : cells + 1 ≤ R.cells) (hslots : slots + N ≤ R.slots) (hdg : decode cc pc = .ok (.newarray .int, 2))
    (kk : ∀ (q : Nat) (H1 : Heap), q = H.size → H1.size = H.size + 1 → va_at D cls (q, .inl (dT 0, N, .inl (fun _ => 0))) H1 → (∀ x : Nat, x < H.size → H1[x]? = H[x]?) → va_S A H0 H1 locs → W p l e R s m args below meth c H1 locs (cells + 1) (slots + N) Q (F0 m (pc + 2) ls (.ref q :: rest))) : W p l e R s m args below meth c H locs cells slots Q (F0 m pc ls (.int n :: rest)) := by
  subst hn
  refine va_newaK (atype := .int) hx hb harr rfl hdg rfl (Int32.not_lt.mpr (nI_pos' (by omega))) (nI_clamp (by omega)) (by show N * 4 ≤ _; omega) hcells hslots rfl fun H1 cA e1 z1 o1 hAr hNm => ?_
  have e : cA = dT 0 := Option.some.inj (hNm.symm.trans (hK.1.2 0 _ rfl).2)
  subst e
  exact kk H.size H1 rfl z1 e1 o1 (z_grew hS z1 o1)
/-- a new row of bytes -/
theorem z_newb (hx : p.tables.exec = Jvm.exec) (hb : c.code = cc) (harr : (Cond.arrayClass .byte).before args s = true) (hK : z_K D dT s) (hS : va_S A H0 H locs) {n : Int32} (N : Nat) (hn : n = nI N) (hN : N ≤ 100000) (hcells : cells + 1 ≤ R.cells) (hslots : slots + N ≤ R.slots) (hdg : decode cc pc = .ok (.newarray .byte, 2))
    (kk : ∀ (q : Nat) (H1 : Heap), q = H.size → H1.size = H.size + 1 → va_at D cls (q, .inl (dT 1, N, .inl (fun _ => 0))) H1 → (∀ x : Nat, x < H.size → H1[x]? = H[x]?) → va_S A H0 H1 locs → W p l e R s m args below meth c H1 locs (cells + 1) (slots + N) Q (F0 m (pc + 2) ls (.ref q :: rest))) : W p l e R s m args below meth c H locs cells slots Q (F0 m pc ls (.int n :: rest)) := by
  subst hn
  refine va_newaK (atype := .byte) hx hb harr rfl hdg rfl (Int32.not_lt.mpr (nI_pos' (by omega))) (nI_clamp (by omega)) (by show N * 1 ≤ _; omega) hcells hslots rfl fun H1 cA e1 z1 o1 hAr hNm => ?_
  have e : cA = dT 1 := Option.some.inj (hNm.symm.trans (hK.1.2 1 _ rfl).2)
  subst e
  exact kk H.size H1 rfl z1 e1 o1 (z_grew hS z1 o1)
/-- a new row of references -/
theorem z_newq (hx : p.tables.exec = Jvm.exec) (hb : c.code = cc) {own C : String} {index : Nat} (hown : s.vm.findClass own = some m.cls) (hcl : (Cond.classLink own index C).before args s = true) (hK : z_K D dT s) (hC : C ∈ aos) (t0 : Nat) (ht : (tz dT)[t0]? = some (dT t0, .object C)) (hS : va_S A H0 H locs) {n : Int32} (N : Nat) (hn : n = nI N) (hN : N ≤ 100000) (hcells : cells + 1 ≤ R.cells) (hslots : slots + N ≤ R.slots) (hdg : decode cc pc = .ok (.anewarray index, 3))
    (kk : ∀ (q : Nat) (H1 : Heap), q = H.size → H1.size = H.size + 1 → va_at D cls (q, .inl (dT t0, N, .inr (.inr (.inr (.inr (fun _ => none)))))) H1 → (∀ x : Nat, x < H.size → H1[x]? = H[x]?) → va_S A H0 H1 locs → W p l e R s m args below meth c H1 locs (cells + 1) (slots + N) Q (F0 m (pc + 3) ls (.ref q :: rest))) : W p l e R s m args below meth c H locs cells slots Q (F0 m pc ls (.int n :: rest)) := by
  subst hn
  have hcl9 : (nI N).toNatClampNeg = N := nI_clamp (by omega)
  refine W.anew hx hb hown hcl (va_AO.use (hK.2.2.1 C hC)) rfl hdg rfl (Int32.not_lt.mpr (nI_pos' (by omega))) (by rw [hcl9]; show N * 4 ≤ _; omega) hcells (by rw [hcl9]; exact hslots) fun cA kA comp f1 f2 f3 f4 => ?_
  rw [hcl9]
  generalize hH1 : H.push ({ cls := cA, slots := Array.replicate N .null, vm := .none } : Cell) = H1
  have z1 : H1.size = H.size + 1 := by rw [← hH1, Array.size_push]
  have e1 : H1[H.size]? = some (arrV cA N (fun _ => .null)) := by rw [← hH1, Array.getElem?_push_size, ← arrV_new]
  have o1 : ∀ q : Nat, q < H.size → H1[q]? = H[q]? := fun q hq => by rw [← hH1, Array.getElem?_push, if_neg (Nat.ne_of_lt hq)]
  obtain ⟨kA2, comp2, g1, g2, g3, g4⟩ := (hK.1.2 t0 _ ht).2
  have e : cA = dT t0 := Option.some.inj (f1.symm.trans g4)
  subst e
  refine kk H.size H1 rfl z1 ?_ o1 (z_grew hS z1 o1)
  show H1[H.size]? = some (vp_cell _ _)
  rw [vp_cell_q]
  exact e1
/-- a store into a row of ints -/
theorem z_ias (hx : p.tables.exec = Jvm.exec) (hb : c.code = cc) (hK : z_K D dT s) (hS : va_S A H0 H locs) (hA : A a) {n : Nat} {f : Nat → Int32} (ha : va_at D cls (a, .inl (dT 0, n, .inl f)) H) {i x : Int32} (j : Nat) (hij : i = nI j) (hj : j < n) (hn : n < 2 ^ 31) (hdg : decode cc pc = .ok (.iastore, 1))
    (kk : ∀ (H1 : Heap) (locs1 : List Loc), va_at D cls (a, .inl (dT 0, n, .inl (upd f j x))) H1 → H1.size = H.size → (∀ q : Nat, q ≠ a → H1[q]? = H[q]?) → va_S A H0 H1 locs1 → W p l e R s m args below meth c H1 locs1 cells slots Q (F0 m (pc + 1) ls rest)) : W p l e R s m args below meth c H locs cells slots Q (F0 m pc ls (.int x :: .int i :: .ref a :: rest)) := by
  subst hij
  have hcl9 : (nI j).toNatClampNeg = j := nI_clamp (by omega)
  refine W.iast hx hb ha ((hK.1.2 0 _ rfl).1 n (fun j => .int (f j))) (fun q => by cases q) (by show ¬ (nI j < 0 ∨ (arrV _ _ _).slots.size ≤ _); rw [arrV_size]; exact vp_in_nI hj hn) rfl rfl hdg fun H1 e z oq => ?_
  refine kk H1 _ ?_ z oq (hS.put z oq hA)
  show H1[a]? = some (vp_cell _ _)
  rw [e]
  rw [hcl9, vp_cell_i, vp_cell_i, arrV_store]
  congr 2
  funext q
  by_cases hq : q = j
  · subst hq
    simp [updV, upd]
  · simp [updV, upd, hq]
/-- a store into a row of references -/
theorem z_aas (hx : p.tables.exec = Jvm.exec) (hb : c.code = cc) (hK : z_K D dT s) (hS : va_S A H0 H locs) (hA : A a) {n t0 v : Nat} {E : String} {f : Nat → Option Nat} (ha : va_at D cls (a, .inl (dT t0, n, .inr (.inr (.inr (.inr f))))) H) (ht : (tz dT)[t0]? = some (dT t0, .object E)) (hr : va_Any E s H v) {i : Int32} (j : Nat) (hij : i = nI j) (hj : j < n) (hn : n < 2 ^ 31) (hdg : decode cc pc = .ok (.aastore, 1))
    (kk : ∀ (H1 : Heap) (locs1 : List Loc), va_at D cls (a, .inl (dT t0, n, .inr (.inr (.inr (.inr (va_up f j (some v))))))) H1 → H1.size = H.size → (∀ q : Nat, q ≠ a → H1[q]? = H[q]?) → va_S A H0 H1 locs1 → W p l e R s m args below meth c H1 locs1 cells slots Q (F0 m (pc + 1) ls rest)) : W p l e R s m args below meth c H locs cells slots Q (F0 m pc ls (.ref v :: .int i :: .ref a :: rest)) := by
  subst hij
  have hcl9 : (nI j).toNatClampNeg = j := nI_clamp (by omega)
  obtain ⟨cellV, g1, g3, ⟨kC, hkC⟩, hasg⟩ := hr
  obtain ⟨kA, comp, k1, k2, k3, -⟩ := (hK.1.2 t0 _ ht).2
  obtain ⟨kE, hkE, -⟩ := Vm.findClass_spec k3
  refine W.aast hx hb ha (fun q h => by cases h) (fun h => by cases h) k1 k2 rfl hkE ⟨Int32.not_lt.mpr (nI_pos' (by omega)), by show _ < (arrV _ _ _).slots.size; rw [arrV_size, hcl9]; exact hj⟩ g1 (fun q h => by rw [h] at g3; cases g3) hkC (hasg _ k3) rfl rfl hdg fun H1 e z oq => ?_
  refine kk H1 _ ?_ z oq (hS.put z oq hA)
  show H1[a]? = some (vp_cell _ _)
  rw [e]
  rw [hcl9, vp_cell_q, vp_cell_q, arrV_store]
  congr 2
  funext q
  by_cases hq : q = j
  · subst hq
    simp [updV, va_up, va_rf]
  · simp [updV, va_up, hq]
theorem z_aasN (hx : p.tables.exec = Jvm.exec) (hb : c.code = cc) (hK : z_K D dT s) (hS : va_S A H0 H locs) (hA : A a) {n t0 : Nat} {E : String} {f : Nat → Option Nat} (ha : va_at D cls (a, .inl (dT t0, n, .inr (.inr (.inr (.inr f))))) H) (ht : (tz dT)[t0]? = some (dT t0, .object E)) {i : Int32} (j : Nat) (hij : i = nI j) (hj : j < n) (hn : n < 2 ^ 31) (hdg : decode cc pc = .ok (.aastore, 1))
    (kk : ∀ (H1 : Heap) (locs1 : List Loc), va_at D cls (a, .inl (dT t0, n, .inr (.inr (.inr (.inr (va_up f j none)))))) H1 → H1.size = H.size → (∀ q : Nat, q ≠ a → H1[q]? = H[q]?) → va_S A H0 H1 locs1 → W p l e R s m args below meth c H1 locs1 cells slots Q (F0 m (pc + 1) ls rest)) : W p l e R s m args below meth c H locs cells slots Q (F0 m pc ls (.null :: .int i :: .ref a :: rest)) := by
  subst hij
  have hcl9 : (nI j).toNatClampNeg = j := nI_clamp (by omega)
  refine va_WaastN (C := E) hx hb ha ((hK.1.2 t0 _ ht).1 n (fun j => va_rf (f j))) (fun h => by cases h) (by show ¬ (nI j < 0 ∨ (arrV _ _ _).slots.size ≤ _); rw [arrV_size]; exact vp_in_nI hj hn) rfl rfl hdg fun H1 e z oq => ?_
  refine kk H1 _ ?_ z oq (hS.put z oq hA)
  show H1[a]? = some (vp_cell _ _)
  rw [e]
  rw [hcl9, vp_cell_q, vp_cell_q, arrV_store]
  congr 2
  funext q
  by_cases hq : q = j
  · subst hq
    simp [updV, va_up, va_rf]
  · simp [updV, va_up, hq]
/-- a field that is not final -/
theorem z_putf (hx : p.tables.exec = Jvm.exec) (hb : c.code = cc) {own ref C : String} {T : u_T} {N ci index : Nat} {Ts : List Cond} (hts : ∀ w ∈ Ts, w.before args s = true) (hin : ∀ w ∈ u_ws C T N, w ∈ Ts) (ty0 : Nat → FieldType) (hty : ∀ k, k < N → parseFieldDescriptor (T k).2.2.1 = some (ty0 k)) (hnm : ∀ a, a < N → ∀ b, b < N → a ≠ b → (T a).2.1 ≠ (T b).2.1) (hown : s.vm.findClass own = some m.cls) (hK : z_K D dT s) (hS0 : va_S A H0 H locs) (hA : A a) {fs : List Value} (ha : va_at D cls (a, .inr (ci, fs)) H) (hc : cls[ci]? = some (C, T, N)) (k : Nat) (hk : k < N) (hlink : (Cond.fieldLink own index ref (T k).2.1 (T k).2.2.1).before args s = true) (hsame : ∀ x, s.fieldFound? (T k).1 (T k).2.1 (T k).2.2.1 = some x → s.fieldFound? ref (T k).2.1 (T k).2.2.1 = some x) (hfin : (T k).2.2.2 = false) {v : Value} (hn : narrow (ty0 k) v = v) (hfit : fits (ty0 k) v = true) (hl : k < fs.length)
    (hdg : decode cc pc = .ok (.putfield index, 3)) (kk : ∀ (H1 : Heap) (locs1 : List Loc), va_at D cls (a, .inr (ci, fs.set k v)) H1 → H1.size = H.size → (∀ q : Nat, q ≠ a → H1[q]? = H[q]?) → va_S A H0 H1 locs1 → W p l e R s m args below meth c H1 locs1 cells slots Q (F0 m (pc + 3) ls rest)) : W p l e R s m args below meth c H locs cells slots Q (F0 m pc ls (v :: .ref a :: rest)) := by
  have hap := va_apart (own := own) hts hin ty0 hty hnm hK.1 hc
  obtain ⟨r, h1, cell, q1, q2, q3, q4⟩ := ha
  have hr : r = (C, T, N) := Option.some.inj (h1.symm.trans hc)
  subst hr
  obtain ⟨hS, hfc, kC, hkC, hkind⟩ := hK.1.1 ci _ hc
  obtain ⟨cf, kf, fi, f, hi, hsl⟩ := hS k hk
  have hlay := hts _ (hin _ (u_in_lay hk))
  unfold u_lay at hlay
  rw [if_neg (by rw [hfin]; decide)] at hlay
  have hst := (u_facts hfc hkC (u_lays hts hin hk) hi).1
  have h6 := u_store hfc hkC hkind hlay hi (hty k hk) hn hfit
  refine W.putK hx hb (f := f) ⟨hown, hlink, ⟨_, _, _, hsame _ hi⟩, hst⟩ (by rw [q2]; exact h6) q1 q3 (by rw [hsl]; exact k2_hasslot (q4 k hk)) rfl rfl hdg fun H' e1 e2 e3 => ?_
  rw [hsl] at e1 ⊢
  exact kk H' _ ⟨_, hc, t_OB.to (V := updV (vp_V fs) k v) ⟨_, e1, q2, q3, t_set q4 hap hk v⟩ (fun j _ => vp_updV_set hl v j)⟩ e2 e3 (hS0.put e2 e3 hA)
/-- a final field, in a constructor -/
theorem z_putF (hx : p.tables.exec = Jvm.exec) (hb : c.code = cc) {own ref C : String} {T : u_T} {N ci index : Nat} {Ts : List Cond} (hts : ∀ w ∈ Ts, w.before args s = true) (hin : ∀ w ∈ u_ws C T N, w ∈ Ts) (ty0 : Nat → FieldType) (hty : ∀ k, k < N → parseFieldDescriptor (T k).2.2.1 = some (ty0 k)) (hnm : ∀ a, a < N → ∀ b, b < N → a ≠ b → (T a).2.1 ≠ (T b).2.1) (hown : s.vm.findClass own = some m.cls) (hK : z_K D dT s) (hS0 : va_S A H0 H locs) (hA : A a) {fs : List Value} (ha : va_at D cls (a, .inr (ci, fs)) H) (hc : cls[ci]? = some (C, T, N)) (k : Nat) (hk : k < N) (hlink : (Cond.fieldLink own index ref (T k).2.1 (T k).2.2.1).before args s = true) (hsame : ∀ x, s.fieldFound? (T k).1 (T k).2.1 (T k).2.2.1 = some x → s.fieldFound? ref (T k).2.1 (T k).2.2.1 = some x) (hfin : (T k).2.2.2 = true) (hin2 : meth.name = "<init>") (hdecl : (T k).1 = own) {v : Value} (hn : narrow (ty0 k) v = v) (hfit : fits (ty0 k) v = true) (hl : k < fs.length)
    (hdg : decode cc pc = .ok (.putfield index, 3)) (kk : ∀ (H1 : Heap) (locs1 : List Loc), va_at D cls (a, .inr (ci, fs.set k v)) H1 → H1.size = H.size → (∀ q : Nat, q ≠ a → H1[q]? = H[q]?) → va_S A H0 H1 locs1 → W p l e R s m args below meth c H1 locs1 cells slots Q (F0 m (pc + 3) ls rest)) : W p l e R s m args below meth c H locs cells slots Q (F0 m pc ls (v :: .ref a :: rest)) := by
  have hap := va_apart (own := own) hts hin ty0 hty hnm hK.1 hc
  obtain ⟨r, h1, cell, q1, q2, q3, q4⟩ := ha
  have hr : r = (C, T, N) := Option.some.inj (h1.symm.trans hc)
  subst hr
  obtain ⟨hS, hfc, kC, hkC, hkind⟩ := hK.1.1 ci _ hc
  obtain ⟨cf, kf, fi, f, hi, hsl⟩ := hS k hk
  have hlay := hts _ (hin _ (u_in_lay hk))
  unfold u_lay at hlay
  rw [if_pos hfin] at hlay
  have hst := (u_facts hfc hkC (u_lays hts hin hk) hi).1
  have hcf : m.cls = cf := by
    obtain ⟨_, _, c', _, _, _, -, -, hf', -, -, -, hown2, -⟩ := Cond.laysFinal_spec hlay
    have e1 : c' = cf := by have := hi.symm.trans hf'; simp at this; exact this.1.symm
    rw [hdecl] at hown2
    rw [← e1]; exact Option.some.inj (hown.symm.trans hown2)
  have h6 := u_fits hfc hkC hkind (Or.inr hlay) hi (hty k hk) hn hfit
  refine W.putFinK hx hb hown hlink (hsame _ hi) hst hcf hin2 (by rw [q2]; exact h6) q1 q3 (by rw [hsl]; exact k2_hasslot (q4 k hk)) rfl rfl hdg fun H' e1 e2 e3 => ?_
  rw [hsl] at e1 ⊢
  exact kk H' _ ⟨_, hc, t_OB.to (V := updV (vp_V fs) k v) ⟨_, e1, q2, q3, t_set q4 hap hk v⟩ (fun j _ => vp_updV_set hl v j)⟩ e2 e3 (hS0.put e2 e3 hA)
/-- an object of a class of cls may lie in a row of E -/
theorem z_any {ci : Nat} {fs : List Value} {C E : String} {T : u_T} {N : Nat} (hK : z_K D dT s) (ha : va_at D cls (a, .inr (ci, fs)) H) (hc : cls[ci]? = some (C, T, N)) (h : (C, E) ∈ csts) : va_Any E s H a := va_rAny hK.1 (z_1 ha) (q0 := 0) rfl hc (fun comp c0 h1 h2 => vb_asgC (hK.2.2.2.1 (C, E) h) comp c0 h1 h2)
theorem z_recv {ci : Nat} {fs : List Value} {r : vw_C} (hK : z_K D dT s) (ha : va_at D cls (a, .inr (ci, fs)) H) (hc : cls[ci]? = some r) : ∃ cell : Cell, H[a]? = some cell ∧ cell.vm.isStatics = false ∧ s.vm.findClass r.1 = some cell.cls := va_recv hK.1 (z_1 ha) (q0 := 0) hc rfl
theorem z_anyE {fs : List Value} (hK : z_K D dT s) (ha : va_at D cls (a, .inr (8, fs)) H) : va_Any "ValueTrees$Entry" s H a := va_rAny hK.1 (z_1 ha) (q0 := 0) rfl (r := ("ValueTrees$Entry", T_Entry, 3)) rfl (fun comp c0 h1 h2 => by
  cases h1.symm.trans h2
  exact va_asg _ _)
end ZN
theorem va_at.off {D : va_G} {cl : List vw_C} {q : Nat × va_E} {H H1 : Heap} {a : Nat} (h : va_at D cl q H) (o : ∀ x : Nat, x ≠ a → H1[x]? = H[x]?) (hn : q.1 ≠ a) : va_at D cl q H1 := h.kept (o _ hn)
theorem va_at.grew {D : va_G} {cl : List vw_C} {q : Nat × va_E} {H H1 : Heap} (h : va_at D cl q H) (o : ∀ x : Nat, x < H.size → H1[x]? = H[x]?) : va_at D cl q H1 := h.kept (o _ h.lt)
theorem fs_V : ∀ j, j < 2 → defaultValue (ty_V j) = vp_V [.null, .null] j := fun j hj => match j, hj with | 0, _ => rfl | 1, _ => rfl | k + 2, h => absurd h (by omega)
theorem fs_Type : ∀ j, j < 5 → defaultValue (ty_Type j) = vp_V [.int 0, .int 0, .int 0, .int 0, .int 0] j := fun j hj => match j, hj with | 0, _ => rfl | 1, _ => rfl | 2, _ => rfl | 3, _ => rfl | 4, _ => rfl | k + 5, h => absurd h (by omega)
theorem fs_Whole : ∀ j, j < 5 → defaultValue (ty_Whole j) = vp_V [.int 0, .int 0, .int 0, .int 0, .null] j := fun j hj => match j, hj with | 0, _ => rfl | 1, _ => rfl | 2, _ => rfl | 3, _ => rfl | 4, _ => rfl | k + 5, h => absurd h (by omega)
theorem fs_Row : ∀ j, j < 4 → defaultValue (ty_Row j) = vp_V [.int 0, .int 0, .long 0, .int 0] j := fun j hj => match j, hj with | 0, _ => rfl | 1, _ => rfl | 2, _ => rfl | 3, _ => rfl | k + 4, h => absurd h (by omega)
theorem fs_Choice : ∀ j, j < 4 → defaultValue (ty_Choice j) = vp_V [.int 0, .int 0, .int 0, .null] j := fun j hj => match j, hj with | 0, _ => rfl | 1, _ => rfl | 2, _ => rfl | 3, _ => rfl | k + 4, h => absurd h (by omega)
theorem fs_Couple : ∀ j, j < 4 → defaultValue (ty_Couple j) = vp_V [.int 0, .int 0, .null, .null] j := fun j hj => match j, hj with | 0, _ => rfl | 1, _ => rfl | 2, _ => rfl | 3, _ => rfl | k + 4, h => absurd h (by omega)
theorem fs_Chain : ∀ j, j < 5 → defaultValue (ty_Chain j) = vp_V [.int 0, .int 0, .null, .null, .int 0] j := fun j hj => match j, hj with | 0, _ => rfl | 1, _ => rfl | 2, _ => rfl | 3, _ => rfl | 4, _ => rfl | k + 5, h => absurd h (by omega)
theorem fs_Tree : ∀ j, j < 3 → defaultValue (ty_Tree j) = vp_V [.int 0, .int 0, .null] j := fun j hj => match j, hj with | 0, _ => rfl | 1, _ => rfl | 2, _ => rfl | k + 3, h => absurd h (by omega)
theorem fs_Entry : ∀ j, j < 3 → defaultValue (ty_Entry j) = vp_V [.null, .null, .int 0] j := fun j hj => match j, hj with | 0, _ => rfl | 1, _ => rfl | 2, _ => rfl | k + 3, h => absurd h (by omega)
theorem fs_AL : ∀ j, j < 3 → defaultValue (ty_AL j) = vp_V [.int 0, .null, .int 0] j := fun j hj => match j, hj with | 0, _ => rfl | 1, _ => rfl | 2, _ => rfl | k + 3, h => absurd h (by omega)
theorem fs_M : ∀ j, j < 12 → defaultValue (ty_M j) = vp_V [.null, .null, .null, .int 0, .null, .null, .null, .null, .int 0, .null, .int 0, .null] j := fun j hj => match j, hj with | 0, _ => rfl | 1, _ => rfl | 2, _ => rfl | 3, _ => rfl | 4, _ => rfl | 5, _ => rfl | 6, _ => rfl | 7, _ => rfl | 8, _ => rfl | 9, _ => rfl | 10, _ => rfl | 11, _ => rfl | k + 12, h => absurd h (by omega)
theorem nc_Whole_Row : ("ValueTrees$Whole", "ValueTrees$Row") ∈ ncs := by decide
theorem nc_Whole_Choice : ("ValueTrees$Whole", "ValueTrees$Choice") ∈ ncs := by decide
theorem nc_Whole_Couple : ("ValueTrees$Whole", "ValueTrees$Couple") ∈ ncs := by decide
theorem nc_Whole_Chain : ("ValueTrees$Whole", "ValueTrees$Chain") ∈ ncs := by decide
theorem nc_Whole_Tree : ("ValueTrees$Whole", "ValueTrees$Tree") ∈ ncs := by decide
theorem nc_Row_Whole : ("ValueTrees$Row", "ValueTrees$Whole") ∈ ncs := by decide
theorem nc_Row_Choice : ("ValueTrees$Row", "ValueTrees$Choice") ∈ ncs := by decide
theorem nc_Row_Couple : ("ValueTrees$Row", "ValueTrees$Couple") ∈ ncs := by decide
theorem nc_Row_Chain : ("ValueTrees$Row", "ValueTrees$Chain") ∈ ncs := by decide
theorem nc_Row_Tree : ("ValueTrees$Row", "ValueTrees$Tree") ∈ ncs := by decide
theorem nc_Choice_Whole : ("ValueTrees$Choice", "ValueTrees$Whole") ∈ ncs := by decide
theorem nc_Choice_Row : ("ValueTrees$Choice", "ValueTrees$Row") ∈ ncs := by decide
theorem nc_Choice_Couple : ("ValueTrees$Choice", "ValueTrees$Couple") ∈ ncs := by decide
theorem nc_Choice_Chain : ("ValueTrees$Choice", "ValueTrees$Chain") ∈ ncs := by decide
theorem nc_Choice_Tree : ("ValueTrees$Choice", "ValueTrees$Tree") ∈ ncs := by decide
theorem nc_Couple_Whole : ("ValueTrees$Couple", "ValueTrees$Whole") ∈ ncs := by decide
theorem nc_Couple_Row : ("ValueTrees$Couple", "ValueTrees$Row") ∈ ncs := by decide
theorem nc_Couple_Choice : ("ValueTrees$Couple", "ValueTrees$Choice") ∈ ncs := by decide
theorem nc_Couple_Chain : ("ValueTrees$Couple", "ValueTrees$Chain") ∈ ncs := by decide
theorem nc_Couple_Tree : ("ValueTrees$Couple", "ValueTrees$Tree") ∈ ncs := by decide
theorem nc_Chain_Whole : ("ValueTrees$Chain", "ValueTrees$Whole") ∈ ncs := by decide
theorem nc_Chain_Row : ("ValueTrees$Chain", "ValueTrees$Row") ∈ ncs := by decide
theorem nc_Chain_Choice : ("ValueTrees$Chain", "ValueTrees$Choice") ∈ ncs := by decide
theorem nc_Chain_Couple : ("ValueTrees$Chain", "ValueTrees$Couple") ∈ ncs := by decide
theorem nc_Chain_Tree : ("ValueTrees$Chain", "ValueTrees$Tree") ∈ ncs := by decide
theorem nc_Tree_Whole : ("ValueTrees$Tree", "ValueTrees$Whole") ∈ ncs := by decide
theorem nc_Tree_Row : ("ValueTrees$Tree", "ValueTrees$Row") ∈ ncs := by decide
theorem nc_Tree_Choice : ("ValueTrees$Tree", "ValueTrees$Choice") ∈ ncs := by decide
theorem nc_Tree_Couple : ("ValueTrees$Tree", "ValueTrees$Couple") ∈ ncs := by decide
theorem nc_Tree_Chain : ("ValueTrees$Tree", "ValueTrees$Chain") ∈ ncs := by decide
