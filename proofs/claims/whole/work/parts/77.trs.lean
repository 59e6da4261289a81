theorem neg_ch {tb : Nat → TR} {ch : VT} {t : Nat} (h : wty tb (.neg ch) 1 t) : (tW (tb t) = 12 ∨ tW (tb t) = 15 ∨ tW (tb t) = 16) ∧ wty tb ch (cmd tb t) t := by
  unfold cmd
  obtain ⟨-, ⟨h1, h2⟩ | ⟨h1, h2⟩⟩ := h
  · rw [if_pos h1]; exact ⟨by omega, h2⟩
  · rw [if_neg (by omega)]; exact ⟨by omega, h2⟩
theorem nth_app {y : VT} : ∀ {x : VT} {k : Nat}, nthE (app x y) k = if k < clen x then nthE x k else nthE y (k - clen x) := by
  intro x
  induction x with
  | mul e r _ ih =>
    intro k
    show nthE (.mul e (app r y)) k = if k < clen r + 1 then nthE (.mul e r) k else nthE y (k - (clen r + 1))
    cases k with
    | zero => rw [if_pos (by omega)]; rfl
    | succ k =>
      show nthE (app r y) k = if k + 1 < clen r + 1 then nthE r k else nthE y (k + 1 - (clen r + 1))
      rw [ih]
      by_cases h : k < clen r
      · rw [if_pos h, if_pos (by omega)]
      · rw [if_neg h, if_neg (by omega)]; congr 1; omega
  | _ => intro k; show nthE y k = if k < 0 then _ else nthE y (k - 0); rw [if_neg (by omega)]; rfl
theorem clen_app {y : VT} : ∀ {x : VT}, clen (app x y) = clen x + clen y := by
  intro x
  induction x with
  | mul e r _ ih => show clen (app r y) + 1 = clen r + 1 + clen y; rw [ih]; omega
  | _ => show clen y = 0 + clen y; omega
theorem clen_two (ch k : VT) : clen ch = clen (prc ch k) + clen (skp ch k) := by
  have h := clen_app (x := prc ch k) (y := skp ch k)
  rw [app_back] at h
  exact h
theorem nth_prc {ch k : VT} {i : Nat} (h : i < clen (prc ch k)) : nthE (prc ch k) i = nthE ch i := by
  have h2 := nth_app (x := prc ch k) (y := skp ch k) (k := i)
  rw [app_back, if_pos h] at h2
  exact h2.symm
theorem nth_skp {ch k : VT} {i : Nat} : nthE (skp ch k) i = nthE ch (clen (prc ch k) + i) := by
  have h2 := nth_app (x := prc ch k) (y := skp ch k) (k := clen (prc ch k) + i)
  rw [app_back, if_neg (by omega), Nat.add_sub_cancel_left] at h2
  exact h2.symm
theorem nth_lt {tb : Nat → TR} {t : Nat} : ∀ {ch : VT}, wty tb ch (cmd tb t) t → ∀ {k : Nat}, k < clen ch → ∃ e, nthE ch k = some e ∧ wen tb t e ∧ (eb e).length ≤ (cs ch).length := by
  intro ch
  induction ch with
  | mul x y _ ih =>
    intro h k hk
    obtain ⟨q, hq⟩ | ⟨e', r', he, h1, h2⟩ := ch_cases h
    · cases hq
    · cases he
      have hl : (cs (.mul x y)).length = (eb x).length + (cs y).length := by rw [cs_mul, List.length_append]
      cases k with
      | zero => exact ⟨x, rfl, h1, by omega⟩
      | succ k =>
        obtain ⟨e, a1, a2, a3⟩ := ih h2 (k := k) (by have : k + 1 < clen y + 1 := hk; omega)
        exact ⟨e, a1, a2, by omega⟩
  | _ => intro h k hk; exact absurd hk (Nat.not_lt_zero _)
theorem nth_some {e : VT} : ∀ {ch : VT} {k : Nat}, nthE ch k = some e → k < clen ch := by
  intro ch
  induction ch with
  | mul x y _ ih =>
    intro k h
    show k < clen y + 1
    cases k with
    | zero => omega
    | succ k => have := ih (k := k) h; omega
  | _ => intro k h; cases k <;> cases h
theorem clen_le {tb : Nat → TR} {t : Nat} : ∀ {ch : VT}, wty tb ch (cmd tb t) t → 2 * clen ch ≤ (cs ch).length := by
  intro ch
  induction ch with
  | mul x y _ ih =>
    intro h
    obtain ⟨q, hq⟩ | ⟨e', r', he, h1, h2⟩ := ch_cases h
    · cases hq
    · cases he
      have hl : (cs (.mul x y)).length = (eb x).length + (cs y).length := by rw [cs_mul, List.length_append]
      have := ih h2
      have := eb_ge h1
      show 2 * (clen y + 1) ≤ _
      omega
  | _ => intro h; exact Nat.zero_le _
theorem ky_len (e : VT) : (cs (kyOf e)).length ≤ (eb e).length := by
  cases e with
  | add k v => show (cs k).length ≤ ([7, 4] ++ (cs k ++ cs v)).length; simp; omega
  | _ => show _ ≤ (en _ ++ cs _).length; simp [kyOf]
theorem wen_ky {tb : Nat → TR} {t : Nat} {e : VT} (h : wen tb t e) : wty tb (kyOf e) 0 (lt_ tb t) := by
  rcases h with ⟨-, h⟩ | ⟨-, k, v, rfl, h, -⟩
  · rw [(en_pow h).2]; exact h
  · exact h
/-- what stands at a key's place -/
theorem at_place {tb : Nat → TR} {t : Nat} {ch k : VT} (h : wty tb ch (cmd tb t) t) (hp : clen (prc ch k) < clen ch) : ∃ e r, skp ch k = .mul e r ∧ nthE ch (clen (prc ch k)) = some e ∧ wen tb t e ∧ (eb e).length ≤ (cs ch).length ∧ wty tb r (cmd tb t) t := by
  have h2 := clen_two ch k
  obtain ⟨q, hq⟩ | ⟨e, r, he, h3, h4⟩ := ch_cases (wty_skp k h)
  · rw [hq] at h2; have : clen ch = clen (prc ch k) + 0 := h2; omega
  · have h5 := nth_skp (ch := ch) (k := k) (i := 0)
    rw [he] at h5
    have h5 : some e = nthE ch (clen (prc ch k) + 0) := h5
    obtain ⟨e2, a1, a2, a3⟩ := nth_lt h hp
    rw [Nat.add_zero, a1] at h5
    cases h5
    exact ⟨e, r, he, a1, h3, a3, h4⟩
theorem thr_lt {ch k : VT} (h : thr (skp ch k) k = true) : clen (prc ch k) < clen ch := by
  have h2 := clen_two ch k
  cases hs : skp ch k with
  | mul e r => rw [hs] at h2; have : clen ch = clen (prc ch k) + (clen r + 1) := h2; omega
  | _ => rw [hs] at h; cases h
/-- the entries without the one at a key's place -/
theorem nth_rem {ch k : VT} (h : thr (skp ch k) k = true) (i : Nat) : nthE (app (prc ch k) (rst ch k)) i = nthE ch (if i < clen (prc ch k) then i else i + 1) ∧ clen (app (prc ch k) (rst ch k)) = clen ch - 1 := by
  have hp := thr_lt h
  have h2 := clen_two ch k
  rw [rst_t h, nth_app, clen_app]
  cases hs : skp ch k with
  | mul e r =>
    have h3 : ∀ i, nthE r i = nthE ch (clen (prc ch k) + (i + 1)) := fun i => by
      have := nth_skp (ch := ch) (k := k) (i := i + 1)
      rw [hs] at this
      exact this
    rw [hs] at h2
    have h2 : clen ch = clen (prc ch k) + (clen r + 1) := h2
    refine ⟨?_, by show clen (prc ch k) + clen r = _; omega⟩
    by_cases hi : i < clen (prc ch k)
    · rw [if_pos hi, if_pos hi, nth_prc hi]
    · rw [if_neg hi, if_neg hi]
      show nthE r _ = _
      rw [h3]; congr 1; omega
  | _ => rw [hs] at h; cases h
theorem nth_ins {P R e : VT} (i : Nat) : nthE (app P (.mul e R)) i = if i = clen P then some e else nthE (app P R) (if i < clen P then i else i - 1) := by
  rw [nth_app, nth_app]
  by_cases h : i < clen P
  · rw [if_pos h, if_pos h, if_neg (by omega), if_pos h]
  · rw [if_neg h]
    by_cases h2 : i = clen P
    · rw [if_pos h2, h2, Nat.sub_self]; rfl
    · rw [if_neg h2, if_neg h, if_neg (by omega), show i - clen P = (i - 1 - clen P) + 1 by omega]; rfl
theorem a_left_ev {tb : Nat → TR} {tc t : Nat} (hO : tOK tb tc) (h : t < tc) (hw : 10 ≤ tW (tb t)) : a_left tb tc (nI t) = nI (lt_ tb t) := by
  unfold a_left
  rw [tN_nI h hO.1]
  dsimp only
  rw [(tl_some hO h hw).1]; rfl
theorem a_right_ev {tb : Nat → TR} {tc t : Nat} (hO : tOK tb tc) (h : t < tc) (hw : 14 ≤ tW (tb t)) : a_right tb tc (nI t) = nI (rt_ tb t) := by
  unfold a_right
  rw [tN_nI h hO.1]
  dsimp only
  rw [(tr_some hO h hw).1]; rfl
theorem a_word_ev {tb : Nat → TR} {tc t : Nat} (hO : tOK tb tc) (h : t < tc) : a_word tb tc (nI t) = nI (tW (tb t)) := by
  unfold a_word
  rw [tN_nI h hO.1]
def tfP (D : va_G) (dT : Nat → ClassId) (B : Nat → Prop) (tb : Nat → TR) (RV : Nat → Option VT) (tr ky : Int32) (H : Heap) (v : Value) : Prop := (v = .null ∧ aTK tb RV tr ky = false) ∨ ∃ a ch t kv, v = .ref a ∧ aTK tb RV tr ky = true ∧ rgs RV tr = some (.pow (.neg ch) t) ∧ rgs RV ky = some kv ∧ rv D dT B H (.pow (.neg ch) t) a
theorem tf_facts {tb : Nat → TR} {tc : Nat} {RV : Nat → Option VT} {tr ky : Int32} {ch kv : VT} {t : Nat} (hV : vOK tb tc RV) (h : aTK tb RV tr ky = true) (h1 : rgs RV tr = some (.pow (.neg ch) t)) (h2 : rgs RV ky = some kv) : t < tc ∧ (tW (tb t) = 12 ∨ tW (tb t) = 15 ∨ tW (tb t) = 16) ∧ wty tb ch (cmd tb t) t ∧ wty tb kv 0 (lt_ tb t) ∧ 5 + (cs ch).length ≤ 160 ∧ (cs kv).length ≤ 160 := by
  obtain ⟨a1, a2, a3⟩ := vOK_get hV h1
  obtain ⟨b1, b2, b3⟩ := vOK_get hV h2
  rw [l_neg] at a3
  obtain ⟨c1, c2⟩ := neg_ch a2.2.2
  unfold aTK at h
  rw [h1, h2] at h
  simp only [Bool.and_eq_true, decide_eq_true_eq] at h
  have e : vty kv = lt_ tb t := h.2
  rw [e] at b2
  exact ⟨a1, c1, c2, b2, a3, b3⟩
