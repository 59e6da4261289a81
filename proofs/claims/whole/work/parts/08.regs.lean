def vty (v : VT) : Nat := match v with | .pow _ t => t | _ => 0
/-- what the reference's registers hold -/
def mR (tc : Nat) (tb : Nat → TR) (ty : Nat → Int32) (sz : Nat → Int32) (F : Nat → Nat) (RV : Nat → Option VT) : Prop :=
  (∀ k, F k < 256) ∧ ∀ j, j < 16 → (RV j = none → ty j = -1) ∧ ∀ v, RV j = some v → ∃ t, t < tc ∧ ty j = nI t ∧ wty tb v 0 t ∧ sz j = nI (cs v).length ∧ (cs v).length ≤ 160 ∧ fAt F (160 * j) (cs v)
def rgs (RV : Nat → Option VT) (r : Int32) : Option VT := if inR r then RV r.toNatClampNeg else none
theorem inR_of {r : Int32} (h : inR r) : ∃ j, j < 16 ∧ r = nI j := ⟨_, (inR_ix h).2, (inR_ix h).1⟩
theorem inR_nI {j : Nat} (h : j < 16) : inR (nI j) := ⟨nI_pos' (by omega), by rw [show (16 : Int32) = nI 16 from rfl]; exact nI_lt h (by decide)⟩
theorem rgs_nI {RV : Nat → Option VT} {j : Nat} (h : j < 16) : rgs RV (nI j) = RV j := by unfold rgs; rw [if_pos (inR_nI h), nI_clamp (by omega)]
theorem rgs_out {RV : Nat → Option VT} {r : Int32} (h : ¬ inR r) : rgs RV r = none := if_neg h
theorem rgs_some {RV : Nat → Option VT} {r : Int32} {v : VT} (h : rgs RV r = some v) : ∃ j, j < 16 ∧ r = nI j ∧ RV j = some v := by
  by_cases hr : inR r
  · obtain ⟨j, hj, rfl⟩ := inR_of hr
    rw [rgs_nI hj] at h
    exact ⟨j, hj, rfl, h⟩
  · rw [rgs_out hr] at h
    cases h
theorem wty_pow {tb : Nat → TR} {v : VT} {t : Nat} (h : wty tb v 0 t) : ∃ c, v = .pow c t ∧ wty tb c 1 t := by
  cases v with
  | pow c ty => obtain ⟨-, rfl, h3⟩ := h; exact ⟨c, rfl, h3⟩
  | _ => simp [wty] at h
theorem wty_vty {tb : Nat → TR} {v : VT} {t : Nat} (h : wty tb v 0 t) : vty v = t := by
  obtain ⟨c, rfl, -⟩ := wty_pow h
  rfl
theorem mR_some {tc : Nat} {tb : Nat → TR} {ty sz : Nat → Int32} {F : Nat → Nat} {RV : Nat → Option VT} (h : mR tc tb ty sz F RV) {j : Nat} (hj : j < 16) {v : VT} (hv : RV j = some v) : vty v < tc ∧ ty j = nI (vty v) ∧ wty tb v 0 (vty v) ∧ sz j = nI (cs v).length ∧ (cs v).length ≤ 160 ∧ fAt F (160 * j) (cs v) := by
  obtain ⟨t, h1, h2, h3, h4⟩ := (h.2 j hj).2 v hv
  rw [wty_vty h3]
  exact ⟨h1, h2, h3, h4⟩
/-- four bytes as a size -/
theorem size4_get (n : Nat) (h : n < 4294967296) : n / 16777216 % 256 * 16777216 + n / 65536 % 256 * 65536 + n / 256 % 256 * 256 + n % 256 = n := by omega
theorem nI_shl24 {n : Nat} (h : n < 128) : nI n <<< ((24 : Int32) &&& 31) = nI (n * 16777216) := pk_shlN _ 24 (by decide) (by omega)
theorem nI_shl16 {n : Nat} (h : n < 256) : nI n <<< ((16 : Int32) &&& 31) = nI (n * 65536) := pk_shlN _ 16 (by decide) (by omega)
theorem nI_shl8 {n : Nat} (h : n < 256) : nI n <<< ((8 : Int32) &&& 31) = nI (n * 256) := pk_shlN _ 8 (by decide) (by omega)
