def kb (c d s : Bool) : Nat := (if c = true then 1 else 0) + (if d = true then 2 else 0) + (if s = true then 4 else 0)
theorem tK_kb (r : TR) : tK r = kb (tC r) (tD r) (tS r) := rfl
theorem mks_b2 : ∀ (c1 d1 s1 c2 d2 s2 : Bool) (w : Nat), w < 19 → 14 ≤ w → mks w (kb c1 d1 s1 &&& kb c2 d2 s2) (kb c2 d2 s2) = kb (decide (w < 9) || ((decide (w = 10) || decide (w = 14) || decide (w = 18)) && c1 && c2)) (!(decide (w = 9) || decide (w = 13) || decide (w = 16) || decide (w = 17)) && d1 && d2) ((!(decide (w = 9) || decide (w = 13) || decide (w = 16) || decide (w = 17)) && d1 && d2) || (decide (w = 16) && d2) || (decide (w = 18) && s1 && s2)) := by decide +kernel
theorem mks_b1 : ∀ (c1 d1 s1 : Bool) (w : Nat), w < 14 → 10 ≤ w → mks w (kb c1 d1 s1 &&& kb c1 d1 s1) (kb c1 d1 s1) = kb (decide (w < 9) || ((decide (w = 10) || decide (w = 14) || decide (w = 18)) && c1 && true)) (!(decide (w = 9) || decide (w = 13) || decide (w = 16) || decide (w = 17)) && d1 && true) ((!(decide (w = 9) || decide (w = 13) || decide (w = 16) || decide (w = 17)) && d1 && true) || (decide (w = 16) && true) || (decide (w = 18) && s1 && true)) := by decide +kernel
theorem mks_2 {tb : Nat → TR} {w k i : Nat} (h1 : 14 ≤ w) (h2 : w ≤ 18) : mks w (tK (tb k) &&& tK (tb i)) (tK (tb i)) = tK (mkR tb w k (some i)) := mks_b2 (tC (tb k)) (tD (tb k)) (tS (tb k)) (tC (tb i)) (tD (tb i)) (tS (tb i)) w (by omega) h1
theorem mks_1 {tb : Nat → TR} {w k : Nat} (h1 : 10 ≤ w) (h2 : w < 14) : mks w (tK (tb k) &&& tK (tb k)) (tK (tb k)) = tK (mkR tb w k none) := mks_b1 (tC (tb k)) (tD (tb k)) (tS (tb k)) w h2 h1
theorem nI_and8 {a b : Nat} (ha : a < 8) (hb : b < 8) : nI a &&& nI b = nI (a &&& b) := (show ∀ a, a < 8 → ∀ b, b < 8 → nI a &&& nI b = nI (a &&& b) by decide +kernel) a ha b hb
theorem and_8 {a b : Nat} (ha : a < 8) : a &&& b < 8 := Nat.lt_of_le_of_lt Nat.and_le_left ha
/-- likeness as the class has it -/
theorem like_iff {tb : Nat → TR} {tc t wn k : Nat} {ob : Option Nat} (hO : tOK tb tc) (ht : t < tc) (hr : rowOK tb tc wn k ob) : (tW (tb t) = tW (mkR tb wn k ob) ∧ oI (tL (tb t)) = oI (tL (mkR tb wn k ob)) ∧ oI (tR (tb t)) = oI (tR (mkR tb wn k ob))) ↔ isT (tb t) wn (some k) ob := by
  obtain ⟨r1, r2, r2b, r3, r4, r5, r6, -⟩ := hO.2.2 t ht
  have hc := hO.1
  obtain ⟨q1, q2, q3, q4, q5, -⟩ := hr
  show (tW (tb t) = wn ∧ oI (tL (tb t)) = oI (some k) ∧ oI (tR (tb t)) = oI ob) ↔ (tW (tb t) = wn ∧ tL (tb t) = some k ∧ tR (tb t) = ob)
  rw [oI_inj (fun j hj => by have := r5 j hj; omega) (fun j hj => by cases hj; omega), oI_inj (fun j hj => by have := r6 j hj; omega) (fun j hj => by have := q5 j hj; omega)]
def numA (tb : Nat → TR) (tc : Nat) (r : TR) : Int32 := match (numT tb tc r).1 with | some t => nI t | none => -2
theorem a_type_num {tb : Nat → TR} {tc : Nat} {w a b : Int32} {r : TR} (h : o_row tb tc w a b = some r) : a_type tb tc w a b = (numA tb tc r, (numT tb tc r).2) := by
  unfold a_type numA
  rw [h]
  dsimp only
  cases hn : numT tb tc r with
  | mk o x => cases o <;> rfl
theorem tfd_is {tb : Nat → TR} {w t : Nat} {L R : Option Nat} : ∀ {n : Nat}, tfd tb w L R n = some t → t < n ∧ isT (tb t) w L R := by
  intro n
  induction n with
  | zero => intro h; cases h
  | succ n ih =>
    intro h
    have h : (match tfd tb w L R n with | some t => some t | none => if isT (tb n) w L R then some n else none) = some t := h
    cases hf : tfd tb w L R n with
    | some t' =>
      rw [hf] at h
      cases h
      have := ih hf
      exact ⟨by omega, this.2⟩
    | none =>
      rw [hf] at h
      dsimp only at h
      split at h
      · next hq => cases h; exact ⟨by omega, hq⟩
      · cases h
theorem num_row {tb : Nat → TR} {tc wn k t : Nat} {ob : Option Nat} (hO : tOK tb tc) (hro : rowOK tb tc wn k ob) (h : (numT tb tc (mkR tb wn k ob)).1 = some t) : t < (numT tb tc (mkR tb wn k ob)).2.2 ∧ isT ((numT tb tc (mkR tb wn k ob)).2.1 t) wn (some k) ob ∧ (∀ j, j < tc → (numT tb tc (mkR tb wn k ob)).2.1 j = tb j) ∧ tc ≤ (numT tb tc (mkR tb wn k ob)).2.2 ∧ tOK (numT tb tc (mkR tb wn k ob)).2.1 (numT tb tc (mkR tb wn k ob)).2.2 := by
  have hc := hO.1
  cases hf : tfd tb wn (some k) ob tc with
  | some t' =>
    rw [numT_some hf] at h ⊢
    cases h
    have h2 := tfd_is hf
    exact ⟨h2.1, h2.2, fun _ _ => rfl, Nat.le_refl _, hO⟩
  | none =>
    by_cases h2 : tc = 2000
    · rw [numT_full hf h2] at h; cases h
    · rw [numT_new hf h2] at h ⊢
      cases h
      exact ⟨by show tc < tc + 1; omega, by show isT (updT tb tc (mkR tb wn k ob) tc) _ _ _; rw [updT_s]; exact ⟨rfl, rfl, rfl⟩, fun j hj => updT_o hj, by show tc ≤ tc + 1; omega, tOK_new hO hro (by omega)⟩
theorem num_none {tb : Nat → TR} {tc wn k : Nat} {ob : Option Nat} (h : (numT tb tc (mkR tb wn k ob)).1 = none) : numT tb tc (mkR tb wn k ob) = (none, tb, tc) := by
  cases hf : tfd tb wn (some k) ob tc with
  | some t' => rw [numT_some hf] at h; cases h
  | none =>
    by_cases h2 : tc = 2000
    · exact numT_full hf h2
    · rw [numT_new hf h2] at h; cases h
/-- pair's answers -/
theorem pr_a {tb : Nat → TR} {tc : Nat} {RV : Nat → Option VT} {r a b : Int32} (h : rgs RV a = none) : a_pair tb tc RV r a b = (-1, RV, tb, tc) := by unfold a_pair; rw [h]
theorem pr_b {tb : Nat → TR} {tc : Nat} {RV : Nat → Option VT} {r a b : Int32} (h : rgs RV b = none) : a_pair tb tc RV r a b = (-1, RV, tb, tc) := by unfold a_pair; rw [h]; cases rgs RV a <;> rfl
theorem pr_r {tb : Nat → TR} {tc : Nat} {RV : Nat → Option VT} {r a b : Int32} {v w : VT} (h1 : rgs RV a = some v) (h2 : rgs RV b = some w) (h : ¬ (inR r ∧ 1 + tP (tb (vty v)) + tP (tb (vty w)) ≤ 200)) : a_pair tb tc RV r a b = (-1, RV, tb, tc) := by unfold a_pair; rw [h1, h2]; exact if_neg h
theorem pr_l {tb : Nat → TR} {tc : Nat} {RV : Nat → Option VT} {r a b : Int32} {v w : VT} (h1 : rgs RV a = some v) (h2 : rgs RV b = some w) (h : inR r ∧ 1 + tP (tb (vty v)) + tP (tb (vty w)) ≤ 200) (hl : 160 < 2 + (cs v).length + (cs w).length) : a_pair tb tc RV r a b = (-2, RV, tb, tc) := by unfold a_pair; rw [h1, h2]; dsimp only; rw [if_pos h, if_pos hl]
theorem pr_n {tb : Nat → TR} {tc : Nat} {RV : Nat → Option VT} {r a b : Int32} {v w : VT} (h1 : rgs RV a = some v) (h2 : rgs RV b = some w) (h : inR r ∧ 1 + tP (tb (vty v)) + tP (tb (vty w)) ≤ 200) (hl : ¬ 160 < 2 + (cs v).length + (cs w).length) (hn : (numT tb tc (mkR tb 18 (vty v) (some (vty w)))).1 = none) : a_pair tb tc RV r a b = (-2, RV, tb, tc) := by
  unfold a_pair; rw [h1, h2]; dsimp only; rw [if_pos h, if_neg hl, num_none hn]
theorem pr_s {tb : Nat → TR} {tc t : Nat} {RV : Nat → Option VT} {r a b : Int32} {v w : VT} (h1 : rgs RV a = some v) (h2 : rgs RV b = some w) (h : inR r ∧ 1 + tP (tb (vty v)) + tP (tb (vty w)) ≤ 200) (hl : ¬ 160 < 2 + (cs v).length + (cs w).length) (hn : (numT tb tc (mkR tb 18 (vty v) (some (vty w)))).1 = some t) : a_pair tb tc RV r a b = ((kp RV r (some (.pow (.add v w) t))).1, (kp RV r (some (.pow (.add v w) t))).2, (numT tb tc (mkR tb 18 (vty v) (some (vty w)))).2) := by
  unfold a_pair; rw [h1, h2]; dsimp only; rw [if_pos h, if_neg hl]
  have e : kp RV r (some (.pow (.add v w) t)) = (nI (2 + (cs v).length + (cs w).length), updR RV r.toNatClampNeg (some (.pow (.add v w) t))) := by
    unfold kp; dsimp only; rw [if_pos h.1, l_add, if_neg hl]
  rw [e]
  cases hx : numT tb tc (mkR tb 18 (vty v) (some (vty w))) with
  | mk o x =>
    rw [hx] at hn
    have hn : o = some t := hn
    subst hn
    rfl
