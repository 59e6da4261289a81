def vty (v : VT) : Nat := match v with | .pow _ t => t | _ => 0
/-- what the reference's registers hold -/
def mR (tc : Nat) (tb : Nat → TR) (ty : Nat → Int32) (sz : Nat → Int32) (F : Nat → Nat) (RV : Nat → Option VT) : Prop :=
  (∀ k, F k < 256) ∧ ∀ j, j < 16 → (RV j = none → ty j = -1) ∧ ∀ v, RV j = some v → ∃ t, t < tc ∧ ty j = nI t ∧ wty tb v 0 t ∧ sz j = nI (cs v).length ∧ (cs v).length ≤ 160 ∧ fAt F (160 * j) (cs v)
def rgs (RV : Nat → Option VT) (r : Int32) : Option VT := if inR r then RV r.toNatClampNeg else none
theorem inR_of {r : Int32} (h : inR r) : ∃ j, j < 16 ∧ r = nI j := ⟨_, (inR_ix h).2, (inR_ix h).1⟩
theorem inR_nI {j : Nat} (h : j < 16) : inR (nI j) := ⟨nI_pos' (by omega), by rw [show (16 : Int32) = nI 16 from rfl]; exact nI_lt h (by decide)⟩
theorem rgs_nI {RV : Nat → Option VT} {j : Nat} (h : j < 16) : rgs RV (nI j) = RV j := by unfold rgs; rw [if_pos (inR_nI h), nI_clamp (by omega)]
theorem rgs_out {RV : Nat → Option VT} {r : Int32} (h : ¬ inR r) : rgs RV r = none := if_neg h
theorem rgs_some {RV : Nat → Option VT} {r : Int32} {v : VT} (h : rgs RV r = some v) : ∃ j, j < 16 ∧ r = nI j ∧ RV j = some v := by
  by_cases hr : inR r
  · obtain ⟨j, hj, rfl⟩ := inR_of hr
    rw [rgs_nI hj] at h
    exact ⟨j, hj, rfl, h⟩
  · rw [rgs_out hr] at h
    cases h
theorem wty_pow {tb : Nat → TR} {v : VT} {t : Nat} (h : wty tb v 0 t) : ∃ c, v = .pow c t ∧ wty tb c 1 t := by
  cases v with
  | pow c ty => obtain ⟨-, rfl, h3⟩ := h; exact ⟨c, rfl, h3⟩
  | _ => simp [wty] at h
theorem wty_vty {tb : Nat → TR} {v : VT} {t : Nat} (h : wty tb v 0 t) : vty v = t := by
  obtain ⟨c, rfl, -⟩ := wty_pow h
  rfl
theorem mR_some {tc : Nat} {tb : Nat → TR} {ty sz : Nat → Int32} {F : Nat → Nat} {RV : Nat → Option VT} (h : mR tc tb ty sz F RV) {j : Nat} (hj : j < 16) {v : VT} (hv : RV j = some v) : vty v < tc ∧ ty j = nI (vty v) ∧ wty tb v 0 (vty v) ∧ sz j = nI (cs v).length ∧ (cs v).length ≤ 160 ∧ fAt F (160 * j) (cs v) := by
  obtain ⟨t, h1, h2, h3, h4⟩ := (h.2 j hj).2 v hv
  rw [wty_vty h3]
  exact ⟨h1, h2, h3, h4⟩
/-- four bytes as a size -/
theorem size4_get (n : Nat) (h : n < 4294967296) : n / 16777216 % 256 * 16777216 + n / 65536 % 256 * 65536 + n / 256 % 256 * 256 + n % 256 = n := by omega
theorem nI_shl24 {n : Nat} (h : n < 128) : nI n <<< ((24 : Int32) &&& 31) = nI (n * 16777216) := pk_shlN _ 24 (by decide) (by omega)
theorem nI_shl16 {n : Nat} (h : n < 256) : nI n <<< ((16 : Int32) &&& 31) = nI (n * 65536) := pk_shlN _ 16 (by decide) (by omega)
theorem nI_shl8 {n : Nat} (h : n < 256) : nI n <<< ((8 : Int32) &&& 31) = nI (n * 256) := pk_shlN _ 8 (by decide) (by omega)
theorem isNum_nI {w : Nat} (h : w < 2 ^ 31) : isNum (nI w) ↔ w = 2 ∨ w = 3 ∨ w = 4 ∨ w = 8 := by
  unfold isNum
  rw [show (2 : Int32) = nI 2 from rfl, show (3 : Int32) = nI 3 from rfl, show (4 : Int32) = nI 4 from rfl, show (8 : Int32) = nI 8 from rfl, nI_eq h (by decide), nI_eq h (by decide), nI_eq h (by decide), nI_eq h (by decide)]
theorem isRw_nI {w : Nat} (h : w < 2 ^ 31) : isRw (nI w) ↔ w = 5 ∨ w = 6 ∨ w = 7 := by
  unfold isRw
  rw [show (5 : Int32) = nI 5 from rfl, show (6 : Int32) = nI 6 from rfl, show (7 : Int32) = nI 7 from rfl, nI_eq h (by decide), nI_eq h (by decide), nI_eq h (by decide)]
theorem isTr_nI {w : Nat} (h : w < 2 ^ 31) : isTr (nI w) ↔ w = 12 ∨ w = 15 ∨ w = 16 := by
  unfold isTr
  rw [show (12 : Int32) = nI 12 from rfl, show (15 : Int32) = nI 15 from rfl, show (16 : Int32) = nI 16 from rfl, nI_eq h (by decide), nI_eq h (by decide), nI_eq h (by decide)]
theorem nser_hi {z : Int} {j : Nat} (h : j < nb z.natAbs / 7) : 128 ≤ (nser z).getD j 0 ∧ (nser z).getD j 0 < 256 := by
  cases j with
  | zero =>
    have h6 : 6 < nb z.natAbs := by omega
    show 128 ≤ z.natAbs % 64 + (if z < 0 then 64 else 0) + (if 6 < nb z.natAbs then 128 else 0) ∧ _ < 256
    rw [if_pos h6]
    refine ⟨by omega, ?_⟩
    show z.natAbs % 64 + (if z < 0 then 64 else 0) + (if 6 < nb z.natAbs then 128 else 0) < 256
    rw [if_pos h6]
    split <;> omega
  | succ j =>
    have e : (nser z).getD (j + 1) 0 = nbyte z.natAbs j := by
      have hj : j < nb z.natAbs / 7 := by omega
      simp [nser, List.getD_eq_getElem?_getD, hj]
    rw [e]
    unfold nbyte
    rw [if_pos (by omega)]
    have := Nat.mod_lt (z.natAbs / 2 ^ (6 + 7 * j)) (show 0 < 128 by decide)
    omega
theorem nser_lo (z : Int) : (nser z).getD (nb z.natAbs / 7) 0 < 128 := by
  cases hm : nb z.natAbs / 7 with
  | zero =>
    show z.natAbs % 64 + (if z < 0 then 64 else 0) + (if 6 < nb z.natAbs then 128 else 0) < 128
    rw [if_neg (show ¬ 6 < nb z.natAbs by omega)]
    split <;> omega
  | succ j =>
    have e : (nser z).getD (j + 1) 0 = nbyte z.natAbs j := by
      simp [nser, List.getD_eq_getElem?_getD, hm]
    rw [e]
    unfold nbyte
    rw [if_neg (by omega)]
    have := Nat.mod_lt (z.natAbs / 2 ^ (6 + 7 * j)) (show 0 < 128 by decide)
    omega
