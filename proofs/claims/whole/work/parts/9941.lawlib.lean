section LK
variable {D : va_G} {dT : Nat → ClassId} {H H1 : Heap} {mm : Nat → Nat} {tb : Nat → TR} {tc : Nat} {RV : Nat → Option VT} {B : Nat → Prop} {vv rg li ed : Nat}
theorem mI_vOK (h : mI D dT mm tb tc RV H) : vOK tb tc RV := by
  obtain ⟨wd, lf, rt, ty, F, sz, Wk, wz, dg, dc, sh, hM, hO, hT, hR, hWk⟩ := h
  refine ⟨hO, fun j hj v hv => ?_⟩
  obtain ⟨a1, -, a3, -, a5, -⟩ := mR_some hR hj hv
  exact ⟨a1, a3, a5⟩
theorem mI_lt (h : mI D dT mm tb tc RV H) {k : Nat} (hk : k < 10) : mm k < H.size := by
  obtain ⟨wd, lf, rt, ty, F, sz, Wk, wz, dg, dc, sh, hM, -⟩ := h
  have hc : k = 0 ∨ k = 1 ∨ k = 2 ∨ k = 3 ∨ k = 4 ∨ k = 5 ∨ k = 6 ∨ k = 7 ∨ k = 8 ∨ k = 9 := by omega
  rcases hc with rfl | rfl | rfl | rfl | rfl | rfl | rfl | rfl | rfl | rfl
  · exact (hM.1 0 _ rfl).lt
  · exact (hM.1 1 _ rfl).lt
  · exact (hM.1 2 _ rfl).lt
  · exact (hM.1 3 _ rfl).lt
  · exact (hM.1 4 _ rfl).lt
  · exact (hM.1 5 _ rfl).lt
  · exact (hM.1 6 _ rfl).lt
  · exact (hM.1 7 _ rfl).lt
  · exact (hM.1 8 _ rfl).lt
  · exact (hM.1 9 _ rfl).lt
theorem mI_obj (h : mI D dT mm tb tc RV H) : ∃ fs, va_at D cls (mm 0, .inr (10, fs)) H := by
  obtain ⟨wd, lf, rt, ty, F, sz, Wk, wz, dg, dc, sh, hM, -⟩ := h
  exact ⟨_, hM.1 0 _ rfl⟩
theorem mI.keep (h : mI D dT mm tb tc RV H) (hk : ∀ k, k < 10 → H1[mm k]? = H[mm k]?) : mI D dT mm tb tc RV H1 := by
  obtain ⟨wd, lf, rt, ty, F, sz, Wk, wz, dg, dc, sh, hM, h2⟩ := h
  exact ⟨wd, lf, rt, ty, F, sz, Wk, wz, dg, dc, sh, ⟨hM.1.kept (fun k q hq => by rw [(mW_at hq).2]; exact hk k (mW_at hq).1), hM.2⟩, h2⟩
theorem cI.keepM (h : cI D dT B vv rg li ed tb tc RV H) (hz : H.size ≤ H1.size) (hf : ∀ q : Nat, q < H.size → ¬ mA mm q → H1[q]? = H[q]?) (hB : ∀ k, k < 10 → B (mm k)) (h1 : ∀ k, k < 10 → mm k ≠ rg) (h2 : ∀ k, k < 10 → mm k ≠ li) (h3 : ∀ k, k < 10 → mm k ≠ ed) : cI D dT B vv rg li ed tb tc RV H1 := by
  obtain ⟨⟨b0, b1, b2, b3, b4, b5, b6, b7⟩, o1, ⟨fr, o2, o3⟩, mc, cap, g, o4, o5, c1, c2, c3, o6⟩ := h
  have hn : ∀ q : Nat, q < H.size → ¬ B q → H1[q]? = H[q]? := fun q hq hb => hf q hq (fun h9 => by
    obtain ⟨k, hk, e⟩ := h9
    exact hb (by rw [e]; exact hB k hk))
  have hm : ∀ (x : Nat), (∀ k, k < 10 → mm k ≠ x) → ¬ mA mm x := fun x hx h9 => by
    obtain ⟨k, hk, e⟩ := h9
    exact hx k hk e.symm
  refine ⟨⟨fun q hq => Nat.lt_of_lt_of_le (b0 q hq) hz, b1, b2, b3, b4, b5, b6, b7⟩, o1.kept (hn _ o1.lt b4), ⟨fr, o2.kept (hf _ o2.lt (hm rg h1)), fun j hj => ⟨(o3 j hj).1, fun v hv => ?_⟩⟩, mc, cap, g, o4.kept (hf _ o4.lt (hm li h2)), o5.kept (hf _ o5.lt (hm ed h3)), c1, c2, c3, fun t ht => ?_⟩
  · obtain ⟨a, a1, a2⟩ := (o3 j hj).2 v hv
    exact ⟨a, a1, rq_keep hn (fun _ _ h => h) v a2⟩
  · obtain ⟨a, a1, a2, a3⟩ := o6 t ht
    exact ⟨a, a1, a2, a3.kept (hn _ a3.lt a2)⟩
theorem cI_wide (h : cI D dT B vv rg li ed tb tc (fun _ => none) H) (hN : nU H H1) (hm : ∀ k, k < 10 → H.size ≤ mm k) (hl : ∀ k, k < 10 → mm k < H1.size) : cI D dT (fun q => B q ∨ mA mm q) vv rg li ed tb tc (fun _ => none) H1 := by
  obtain ⟨⟨b0, b1, b2, b3, b4, b5, b6, b7⟩, o1, ⟨fr, o2, o3⟩, mc, cap, g, o4, o5, c1, c2, c3, o6⟩ := h
  have hn : ∀ x : Nat, x < H.size → ¬ mA mm x := fun x hx h9 => by
    obtain ⟨k, hk, e⟩ := h9
    have := hm k hk
    omega
  refine ⟨⟨fun q hq => hq.elim (fun h9 => Nat.lt_of_lt_of_le (b0 q h9) hN.1) (fun h9 => by obtain ⟨k, hk, e⟩ := h9; rw [e]; exact hl k hk), Or.inl b1, Or.inl b2, Or.inl b3, fun h9 => h9.elim b4 (hn vv o1.lt), b5, b6, b7⟩, o1.grew hN.2, ⟨fr, o2.grew hN.2, fun j hj => ⟨(o3 j hj).1, fun v hv => by cases hv⟩⟩, mc, cap, g, o4.grew hN.2, o5.grew hN.2, c1, c2, c3, fun t ht => ?_⟩
  obtain ⟨a, a1, a2, a3⟩ := o6 t ht
  exact ⟨a, a1, fun h9 => h9.elim a2 (hn a a3.lt), a3.grew hN.2⟩
end LK
/-- what the law keeps -/
def lI (D : va_G) (dT : Nat → ClassId) (n0 vv rg li : Nat) (mm : Nat → Nat) (H : Heap) : Prop := ∃ (B : Nat → Prop) (ed : Nat) (tb : Nat → TR) (tc : Nat) (RV : Nat → Option VT), cI D dT B vv rg li ed tb tc RV H ∧ mI D dT mm tb tc RV H ∧ (∀ k, k < 10 → B (mm k) ∧ mm k ≠ rg ∧ mm k ≠ li ∧ mm k ≠ ed ∧ n0 ≤ mm k) ∧ n0 ≤ rg ∧ n0 ≤ li ∧ n0 ≤ ed
theorem z_sld {p : Program} {l : Launch} {e : Env} {R : Room} {s : State} {m : MethodId} {args : Array Value} {below : List Frame} {meth : Method} {c : Code} {H H0 : Heap} {locs : List Loc} {cells slots : Nat} {Q : State → Prop} {cc : ByteArray} {pc : Nat} {ls : Array Slot} {rest : List Value} {A : Nat → Prop} (hx : p.tables.exec = Jvm.exec) (hb : c.code = cc) {b L : Nat} {xs : Nat → Int32} (hX : va_X b L xs s H0) (hbl : b < H0.size) (hbA : ¬ A b) (hS : va_S A H0 H locs) {i : Int32} (j : Nat) (hij : i = nI j) (hj : j < L) (hL : L ≤ 3072) (hdg : decode cc pc = .ok (.iaload, 1))
    (kk : W p l e R s m args below meth c H locs cells slots Q (F0 m (pc + 1) ls (.int (xs j) :: rest))) : W p l e R s m args below meth c H locs cells slots Q (F0 m pc ls (.int i :: .ref b :: rest)) := by
  subst hij
  refine va_sld hx hb hX hbl hbA hS (vp_in_nI hj (by omega)) hdg ?_
  rw [nI_clamp (by omega)]
  exact kk
theorem lw_lim {L j : Nat} (hL : L ≤ 3072) (hj : j ≤ 4000) (h : ¬ nI L - 6 < nI j) : j + 6 ≤ L := by
  rw [Int32.lt_iff_toInt_lt, Int32.toInt_sub, nI_toInt (by omega), nI_toInt (by omega)] at h
  have e : ((L : Int) - (6 : Int32).toInt).bmod (2 ^ 32) = (L : Int) - 6 := by
    rw [show (6 : Int32).toInt = 6 from rfl]
    exact bm32 (by omega) (by omega)
  rw [e] at h
  omega
