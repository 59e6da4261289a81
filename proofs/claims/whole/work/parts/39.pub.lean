/-- the reference as the law holds it -/
def mI (D : va_G) (dT : Nat → ClassId) (mm : Nat → Nat) (tb : Nat → TR) (tc : Nat) (RV : Nat → Option VT) (H : Heap) : Prop :=
  ∃ (wd lf rt : Nat → Int32) (ty : Nat → Int32) (F : Nat → Nat) (sz : Nat → Int32) (Wk : Nat → Nat) (wz : Nat) (dg : Nat → Nat) (dc : Nat) (sh : Nat → Nat), mAt D dT mm wd lf rt tc ty F sz Wk wz dg dc sh H ∧ tOK tb tc ∧ mT tb tc wd lf rt ∧ mR tc tb ty sz F RV ∧ ∀ k, Wk k < 256
def updR (RV : Nat → Option VT) (j : Nat) (o : Option VT) : Nat → Option VT := fun k => if k = j then o else RV k
/-- the end of a call that makes a value -/
def kp (RV : Nat → Option VT) (r : Int32) (o : Option VT) : Int32 × (Nat → Option VT) := match o with
  | none => (-1, RV)
  | some v => if inR r then (if 160 < (cs v).length then (-2, RV) else (nI (cs v).length, updR RV r.toNatClampNeg (some v))) else (-1, RV)
/-- how keep ends -/
def kO (D : va_G) (dT : Nat → ClassId) (mm : Nat → Nat) (wd lf rt : Nat → Int32) (tc : Nat) (ty : Nat → Int32) (F : Nat → Nat) (sz : Nat → Int32) (j t : Nat) (bs : List Nat) (v : Option Value) (H1 : Heap) : Prop :=
  ∃ (Wk : Nat → Nat) (wz : Nat) (dg : Nat → Nat) (dc : Nat) (sh : Nat → Nat), (∀ k, Wk k < 256) ∧ ((160 < bs.length ∧ v = some (.int (-2)) ∧ mAt D dT mm wd lf rt tc ty F sz Wk wz dg dc sh H1) ∨ (bs.length ≤ 160 ∧ v = some (.int (nI bs.length)) ∧ mAt D dT mm wd lf rt tc (upd ty j (nI t)) (cpF F (160 * j) bs bs.length) (upd sz j (nI bs.length)) Wk wz dg dc sh H1))
theorem fAt_cp {F : Nat → Nat} {b i j : Nat} {bs x : List Nat} (h : fAt F (160 * i) x) (hx : x.length ≤ 160) (hb : bs.length ≤ 160) (hij : i ≠ j) : fAt (cpF F (160 * j) bs bs.length) (160 * i) x := by
  intro k hk
  rw [cpF_o (by omega)]
  exact h k hk
theorem kO_done {D : va_G} {dT : Nat → ClassId} {mm : Nat → Nat} {wd lf rt : Nat → Int32} {tc : Nat} {ty : Nat → Int32} {F : Nat → Nat} {sz : Nat → Int32} {tb : Nat → TR} {RV : Nat → Option VT} {j t : Nat} {x : VT} {v : Option Value} {H1 : Heap}
    (h : kO D dT mm wd lf rt tc ty F sz j t (cs x) v H1) (hO : tOK tb tc) (hT : mT tb tc wd lf rt) (hR : mR tc tb ty sz F RV) (hj : j < 16) (ht : t < tc) (hx : wty tb x 0 t) :
    v = some (.int (kp RV (nI j) (some x)).1) ∧ mI D dT mm tb tc (kp RV (nI j) (some x)).2 H1 := by
  obtain ⟨Wk, wz, dg, dc, sh, hW, ⟨h1, h2, h3⟩ | ⟨h1, h2, h3⟩⟩ := h
  · have e : kp RV (nI j) (some x) = (-2, RV) := by unfold kp; dsimp only; rw [if_pos (inR_nI hj), if_pos h1]
    rw [e]
    exact ⟨h2, _, _, _, _, _, _, _, _, _, _, _, h3, hO, hT, hR, hW⟩
  · have e : kp RV (nI j) (some x) = (nI (cs x).length, updR RV j (some x)) := by unfold kp; dsimp only; rw [if_pos (inR_nI hj), if_neg (by omega), nI_clamp (by omega)]
    rw [e]
    refine ⟨h2, _, _, _, _, _, _, _, _, _, _, _, h3, hO, hT, ⟨cpF_lt hR.1 (fun k _ => cs_getD x k), fun i hi => ?_⟩, hW⟩
    by_cases hij : i = j
    · subst hij
      refine ⟨fun h => ?_, fun v hv => ?_⟩
      · simp [updR] at h
      · have : x = v := by simpa [updR] using hv
        subst this
        exact ⟨t, ht, upd_s, hx, upd_s, h1, cpF_at⟩
    · have e2 : updR RV j (some x) i = RV i := if_neg hij
      dsimp only
      rw [e2, upd_n hij, upd_n hij]
      refine ⟨(hR.2 i hi).1, fun v hv => ?_⟩
      obtain ⟨t', a1, a2, a3, a4, a5, a6⟩ := (hR.2 i hi).2 v hv
      exact ⟨t', a1, a2, a3, a4, a5, fAt_cp (b := 0) a6 a5 h1 hij⟩
theorem kp_none {RV : Nat → Option VT} {r : Int32} : kp RV r none = (-1, RV) := rfl
theorem kp_out {RV : Nat → Option VT} {r : Int32} {o : Option VT} (h : ¬ inR r) : kp RV r o = (-1, RV) := by cases o with
  | none => rfl
  | some v => exact if_neg h
def a_typeOf (RV : Nat → Option VT) (r : Int32) : Int32 := match rgs RV r with | none => -1 | some v => nI (vty v)
def a_length (RV : Nat → Option VT) (r : Int32) : Int32 := match rgs RV r with | none => -1 | some v => nI (cs v).length
def o_simple (w : Int32) : Option VT := if w = 0 then some (.pow (.var 0) 0) else if w = 1 then some (.pow (.var 1) 1) else if w = 2 then some (.pow (.var 2) 1) else none
theorem num_of {tb : Nat → TR} {v : VT} (h : wty tb v 0 (vty v)) (hw : tW (tb (vty v)) = 2 ∨ tW (tb (vty v)) = 3 ∨ tW (tb (vty v)) = 4 ∨ tW (tb (vty v)) = 8) : ∃ z, v = .pow (.num z) (vty v) ∧ z.natAbs < 2 ^ 1024 := by
  obtain ⟨c, e, hc⟩ := wty_pow h
  obtain ⟨z, rfl, hz⟩ := w_num hc hw
  exact ⟨z, e, hz⟩
theorem row_of {tb : Nat → TR} {v : VT} (h : wty tb v 0 (vty v)) (hw : tW (tb (vty v)) = 5 ∨ tW (tb (vty v)) = 6 ∨ tW (tb (vty v)) = 7) : ∃ k, v = .pow (.natCast k) (vty v) ∧ k % 16 ≤ 8 := by
  obtain ⟨c, e, hc⟩ := wty_pow h
  obtain ⟨k, rfl, hk, -⟩ := w_row hc hw
  exact ⟨k, e, hk⟩
theorem tree_of {tb : Nat → TR} {v : VT} (h : wty tb v 0 (vty v)) (hw : tW (tb (vty v)) = 12 ∨ tW (tb (vty v)) = 15 ∨ tW (tb (vty v)) = 16) : ∃ ch, v = .pow (.neg ch) (vty v) ∧ wty tb ch (cmd tb (vty v)) (vty v) := by
  obtain ⟨c, e, hc⟩ := wty_pow h
  cases c with
  | neg ch =>
    refine ⟨ch, e, ?_⟩
    unfold cmd
    obtain ⟨-, ⟨h1, h2⟩ | ⟨h1, h2⟩⟩ := hc
    · rw [if_pos h1]; exact h2
    · rw [if_neg (by omega)]; exact h2
  | _ => simp only [wty] at hc; omega
def numOf (v : VT) : Option Int := match v with | .pow (.num z) _ => some z | _ => none
def rowOf (v : VT) : Option Nat := match v with | .pow (.natCast c) _ => some c | _ => none
def rbind {α : Type} (RV : Nat → Option VT) (r : Int32) (f : VT → Option α) : Option α := (rgs RV r).bind f
def a_digit (RV : Nat → Option VT) (r i : Int32) : Int32 := match rbind RV r numOf with | some z => if i < 0 then -1 else nI (z.natAbs / 2 ^ (16 * i.toNatClampNeg) % 65536) | none => -1
def a_below (RV : Nat → Option VT) (r : Int32) : Int32 := match rbind RV r numOf with | some z => if z < 0 then 1 else 0 | none => 0
def a_byteAt (RV : Nat → Option VT) (r i : Int32) : Int32 := match rbind RV r rowOf with | some c => if 0 ≤ i ∧ i < nI (c % 16) then nI ((rser c).getD i.toNatClampNeg 0) else -1 | none => -1
theorem rb_none {α : Type} {RV : Nat → Option VT} {r : Int32} {f : VT → Option α} (h : rgs RV r = none) : rbind RV r f = none := by unfold rbind; rw [h]; rfl
theorem rb_some {α : Type} {RV : Nat → Option VT} {r : Int32} {f : VT → Option α} {v : VT} (h : rgs RV r = some v) : rbind RV r f = f v := by unfold rbind; rw [h]; rfl
def a_compare (tb : Nat → TR) (RV : Nat → Option VT) (a b : Int32) : Int32 := match rgs RV a, rgs RV b with | some v, some w => if vty v = vty w ∧ tC (tb (vty v)) = true then vo v w else 2 | _, _ => 2
theorem digit_of {dg : Nat → Nat} {dc i : Nat} (hd : ∀ k, k < dc → dg k < 65536) : (if i < dc then dg i else 0) = dval dg dc / 2 ^ (16 * i) % 65536 := by
  by_cases h : i < dc
  · rw [if_pos h, dval_digit hd h]
  · rw [if_neg h, dval_hi hd (by omega)]
theorem num_no {tb : Nat → TR} {v : VT} (h : wty tb v 0 (vty v)) (hw : ¬ (tW (tb (vty v)) = 2 ∨ tW (tb (vty v)) = 3 ∨ tW (tb (vty v)) = 4 ∨ tW (tb (vty v)) = 8)) : numOf v = none := by
  obtain ⟨c, e, hc⟩ := wty_pow h
  rw [e]
  cases c with
  | num z => exact absurd hc.2.1 hw
  | _ => rfl
theorem row_no {tb : Nat → TR} {v : VT} (h : wty tb v 0 (vty v)) (hw : ¬ (tW (tb (vty v)) = 5 ∨ tW (tb (vty v)) = 6 ∨ tW (tb (vty v)) = 7)) : rowOf v = none := by
  obtain ⟨c, e, hc⟩ := wty_pow h
  rw [e]
  cases c with
  | natCast z => exact absurd hc.2.1 (by omega)
  | _ => rfl
theorem num_ev {v : VT} {z : Int} {t : Nat} (h : v = .pow (.num z) t) : numOf v = some z := by rw [h]; rfl
theorem row_ev {v : VT} {z t : Nat} (h : v = .pow (.natCast z) t) : rowOf v = some z := by rw [h]; rfl
