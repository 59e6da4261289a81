def chOf (v : VT) : VT := match v with | .pow (.neg ch) _ => ch | _ => .intCast 0
def a_has (tb : Nat → TR) (RV : Nat → Option VT) (a b : Int32) : Int32 := if aTK tb RV a b = true then (match rgs RV a, rgs RV b with | some v, some k => if thr (skp (chOf v) k) k = true then 1 else 0 | _, _ => 0) else -1
theorem tk_facts {tc : Nat} {tb : Nat → TR} {ty sz : Nat → Int32} {F : Nat → Nat} {RV : Nat → Option VT} (hR : mR tc tb ty sz F RV) {a b : Int32} (h : aTK tb RV a b = true) :
    ∃ jt jk t ch kv, jt < 16 ∧ jk < 16 ∧ a = nI jt ∧ b = nI jk ∧ RV jt = some (.pow (.neg ch) t) ∧ RV jk = some kv ∧ t < tc ∧ (tW (tb t) = 12 ∨ tW (tb t) = 15 ∨ tW (tb t) = 16) ∧ wty tb ch (cmd tb t) t ∧ wty tb kv 0 (lt_ tb t) ∧ ty jt = nI t ∧ ty jk = nI (lt_ tb t) ∧ sz jt = nI (5 + (cs ch).length) ∧ sz jk = nI (cs kv).length ∧ 5 + (cs ch).length ≤ 160 ∧ (cs kv).length ≤ 160 ∧ fAt F (160 * jt + 5) (cs ch) ∧ fAt F (160 * jk) (cs kv) := by
  unfold aTK at h
  cases ha : rgs RV a with
  | none => rw [ha] at h; simp at h
  | some v =>
    cases hb : rgs RV b with
    | none => rw [ha, hb] at h; simp at h
    | some k =>
      rw [ha, hb] at h
      simp only [Bool.and_eq_true, decide_eq_true_eq] at h
      obtain ⟨hw, hk⟩ := h
      obtain ⟨jt, hjt, e1, hv⟩ := rgs_some ha
      obtain ⟨jk, hjk, e2, hk2⟩ := rgs_some hb
      obtain ⟨a1, a2, a3, a4, a5, a6⟩ := mR_some hR hjt hv
      obtain ⟨b1, b2, b3, b4, b5, b6⟩ := mR_some hR hjk hk2
      obtain ⟨ch, e, hch⟩ := tree_of a3 hw
      rw [hk] at b2 b3
      have hl : (cs v).length = 5 + (cs ch).length := by rw [e, l_neg]
      rw [hl] at a4 a5
      have a7 := a6
      rw [e, f_neg] at a7
      exact ⟨jt, jk, vty v, ch, k, hjt, hjk, e1, e2, by rw [hv, ← e], hk2, a1, hw, hch, b3, a2, b2, a4, b4, a5, b5, a7.2.2, b6⟩
theorem skp_at {F : Nat → Nat} {tb : Nat → TR} {t a : Nat} {ch kv : VT} (h : wty tb ch (cmd tb t) t) (hf : fAt F a (cs ch)) : fAt F a (cs (prc ch kv)) ∧ fAt F (a + (cs (prc ch kv)).length) (cs (skp ch kv)) ∧ (cs (prc ch kv)).length + (cs (skp ch kv)).length = (cs ch).length := by
  rw [cs_split kv h, fAt_app] at hf
  exact ⟨hf.1, hf.2, by rw [cs_split kv h, List.length_append]⟩
theorem wAt_1 {Wk : Nat → Nat} {a : Nat} {y : List Nat} (h : wAt Wk ([a] ++ y)) : wAt Wk [a] := ⟨h.1, fun k hk h4 => by
  have e : k = 0 := by simp at hk; omega
  subst e
  exact h.2 0 (by simp) (by decide)⟩
theorem wAt_hd {Wk Wk2 : Nat → Nat} {x : List Nat} {n : Nat} (h : wAt Wk ([2 % 256] ++ (size4 0 ++ x))) (h1 : wAt Wk2 ([2 % 256] ++ size4 n)) (hk : ∀ k, [2 % 256].length + 4 ≤ k → Wk2 k = Wk k) : wAt Wk2 (2 :: (size4 n ++ x)) := by
  refine ⟨h1.1, fun k hlt h4 => ?_⟩
  have e : 2 :: (size4 n ++ x) = ([2 % 256] ++ size4 n) ++ x := rfl
  rw [e]
  rcases Nat.lt_or_ge k 5 with q | q
  · rw [gD_l (by show k < 5; exact q)]
    exact h1.2 k (by show k < 5; exact q) h4
  · rw [gD_r (by show 5 ≤ k; exact q), hk k (by show 5 ≤ k; exact q)]
    have h9 := h.2 k (by simp [size4] at hlt ⊢; omega) h4
    rw [h9]
    have e2 : [2 % 256] ++ (size4 0 ++ x) = ([2 % 256] ++ size4 0) ++ x := rfl
    rw [e2, gD_r (by show 5 ≤ k; exact q)]
    rfl
