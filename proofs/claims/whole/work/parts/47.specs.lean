/-- a type by its number -/
def tN (tc : Nat) (t : Int32) : Option Nat := if 0 ≤ t ∧ t < nI tc then some t.toNatClampNeg else none
theorem tN_some {tc : Nat} {t : Int32} {k : Nat} (h : tN tc t = some k) (hc : tc ≤ 2000) : t = nI k ∧ k < tc := by
  unfold tN at h
  split at h
  · next hq =>
    obtain ⟨j, hj, rfl⟩ := nI_of (x := t) (Int32.not_lt.mpr hq.1)
    rw [nI_clamp hj] at h
    cases h
    exact ⟨rfl, (nI_ltI hj (by omega)).mp hq.2⟩
  · cases h
theorem tN_nI {tc k : Nat} (h : k < tc) (hc : tc ≤ 2000) : tN tc (nI k) = some k := by
  unfold tN
  rw [if_pos ⟨nI_pos' (by omega), (nI_ltI (by omega) (by omega)).mpr h⟩, nI_clamp (by omega)]
theorem tN_none {tc : Nat} {t : Int32} (h : ¬ (0 ≤ t ∧ t < nI tc)) : tN tc t = none := if_neg h
theorem tN_of {tc : Nat} {t : Int32} (h : 0 ≤ t ∧ t < nI tc) (hc : tc ≤ 2000) : ∃ k, k < tc ∧ t = nI k := by
  obtain ⟨j, hj, rfl⟩ := nI_of (x := t) (Int32.not_lt.mpr h.1)
  exact ⟨j, (nI_ltI hj (by omega)).mp h.2, rfl⟩
def coreOf (v : VT) : VT := match v with | .pow c _ => c | x => x
def o_number (t : Int32) (v : Int64) : Option VT := if t = 2 ∨ t = 8 ∨ ((t = 3 ∨ t = 4) ∧ 0 ≤ v) then some (.pow (.num v.toInt) t.toNatClampNeg) else none
def o_times (RV : Nat → Option VT) (f n : Int32) : Option VT := match rgs RV f with
  | some (.pow (.num z) t) => if 0 ≤ n ∧ n ≤ 1000 ∧ (nb z.natAbs = 0 ∨ nb z.natAbs + n.toNatClampNeg ≤ (if t = 4 then 63 else 1024)) then some (.pow (.num (z * 2 ^ n.toNatClampNeg)) t) else none
  | _ => none
def o_bytes (t : Int32) (x : Int64) (n : Int32) : Option VT := if (t = 5 ∨ t = 6) ∧ 0 ≤ n ∧ n ≤ 8 then some (.pow (.natCast (n.toNatClampNeg + 16 * (x.toUInt64.toNat % 256 ^ n.toNatClampNeg))) t.toNatClampNeg) else none
def o_empty (tb : Nat → TR) (tc : Nat) (t : Int32) : Option VT := match tN tc t with
  | none => none
  | some k => if tW (tb k) = 10 then some (.pow (.var 1) k) else if tW (tb k) = 11 then some (.pow (.intCast 0) k) else if tW (tb k) = 12 ∨ tW (tb k) = 15 ∨ tW (tb k) = 16 then some (.pow (.neg (.intCast 0)) k) else none
def o_wrap (tb : Nat → TR) (tc : Nat) (RV : Nat → Option VT) (t side f : Int32) : Option VT := match tN tc t, rgs RV f with
  | some k, some v => if side = 0 ∧ tW (tb k) = 10 ∧ vty v = lt_ tb k then some (.pow (.sub (.var 3) v) k) else if side = 0 ∧ tW (tb k) = 14 ∧ vty v = lt_ tb k then some (.pow (.sub (.var 1) v) k) else if side = 1 ∧ tW (tb k) = 14 ∧ vty v = rt_ tb k then some (.pow (.sub (.var 2) v) k) else none
  | _, _ => none
def o_cons (tb : Nat → TR) (RV : Nat → Option VT) (f g : Int32) : Option VT := match rgs RV f, rgs RV g with
  | some v, some w => if tW (tb (vty w)) = 11 ∧ vty v = lt_ tb (vty w) then some (.pow (.mul v (coreOf w)) (vty w)) else none
  | _, _ => none
/-- what follows a key's place -/
def rst (ch k : VT) : VT := if thr (skp ch k) k = true then tlc (skp ch k) else skp ch k
def insE (v k e : VT) : VT := .pow (.neg (app (prc (chOf v) k) (.mul e (rst (chOf v) k)))) (vty v)
def remE (v k : VT) : VT := .pow (.neg (app (prc (chOf v) k) (rst (chOf v) k))) (vty v)
def o_put (tb : Nat → TR) (RV : Nat → Option VT) (a b c : Int32) : Option VT := if aTK tb RV a b = true then (match rgs RV a, rgs RV b with
  | some v, some k => if tW (tb (vty v)) = 12 then some (insE v k k) else (match rgs RV c with | some x => if vty x = rt_ tb (vty v) then some (insE v k (.add k x)) else none | none => none)
  | _, _ => none) else none
def o_remove (tb : Nat → TR) (RV : Nat → Option VT) (a b : Int32) : Option VT := if aTK tb RV a b = true then (match rgs RV a, rgs RV b with
  | some v, some k => some (remE v k)
  | _, _ => none) else none
def valOf (e : VT) : Option VT := match e with | .add _ x => some x | _ => none
def fstE (c : VT) : Option VT := match c with | .mul e _ => some e | _ => none
def o_get (tb : Nat → TR) (RV : Nat → Option VT) (a b : Int32) : Option VT := if aTK tb RV a b = true then (match rgs RV a, rgs RV b with
  | some v, some k => if thr (skp (chOf v) k) k = true then (fstE (skp (chOf v) k)).bind valOf else none
  | _, _ => none) else none
def nthE : VT → Nat → Option VT
  | .mul e _, 0 => some e
  | .mul _ r, n + 1 => nthE r n
  | _, _ => none
def treeC (v : VT) : Option VT := match v with | .pow (.neg ch) _ => some ch | _ => none
def o_at (RV : Nat → Option VT) (a i w : Int32) : Option VT := match (rgs RV a).bind treeC with
  | some ch => if 0 ≤ i then (match nthE ch i.toNatClampNeg with | some e => if w = 0 then some (kyOf e) else if w = 1 then valOf e else none | none => none) else none
  | none => none
def o_part (RV : Nat → Option VT) (f w : Int32) : Option VT := match rgs RV f with
  | some (.pow (.sub _ v) _) => if w = 0 then some v else none
  | some (.pow (.add x y) _) => if w = 0 then some x else if w = 1 then some y else none
  | some (.pow (.mul x y) t) => if w = 0 then some x else if w = 1 then some (.pow y t) else none
  | _ => none
def a_move (r f : Int32) : Int32 := if inR r ∧ inR f then 1 else 0
def v_move (RV : Nat → Option VT) (r f : Int32) : Nat → Option VT := if inR r ∧ inR f then updR RV r.toNatClampNeg (RV f.toNatClampNeg) else RV
def wh (c : VT) : Int32 := match c with | .var 0 => -1 | .var 1 => 0 | .var _ => 1 | .sub (.var 1) _ => 0 | .sub _ _ => 1 | _ => -1
def a_which (RV : Nat → Option VT) (r : Int32) : Int32 := match rgs RV r with | some v => wh (coreOf v) | none => -1
def clen : VT → Nat
  | .mul _ r => clen r + 1
  | _ => 0
def mny (c : VT) : Int32 := match c with | .natCast k => nI (k % 16) | .neg ch => nI (clen ch) | .mul x y => nI (clen (.mul x y)) | .intCast _ => 0 | _ => -1
def a_many (RV : Nat → Option VT) (r : Int32) : Int32 := match rgs RV r with | some v => mny (coreOf v) | none => -1
def a_ofType (tb : Nat → TR) (tc : Nat) (t w : Int32) : Int32 := match tN tc t with | none => -1 | some k => if w = 0 then nI (tW (tb k)) else if w = 1 then oI (tL (tb k)) else if w = 2 then oI (tR (tb k)) else if w = 3 then nI (tK (tb k)) else -1
/-- the first type with a word, a left and a right -/
abbrev isT (r : TR) (w : Nat) (L R : Option Nat) : Prop := tW r = w ∧ tL r = L ∧ tR r = R
def tfd (tb : Nat → TR) (w : Nat) (L R : Option Nat) : Nat → Option Nat
  | 0 => none
  | n + 1 => match tfd tb w L R n with | some t => some t | none => if isT (tb n) w L R then some n else none
theorem tfd_none {tb : Nat → TR} {w : Nat} {L R : Option Nat} : ∀ {n : Nat}, (∀ k, k < n → ¬ isT (tb k) w L R) → tfd tb w L R n = none := by
  intro n
  induction n with
  | zero => intro _; rfl
  | succ n ih =>
    intro h
    show (match tfd tb w L R n with | some t => some t | none => if isT (tb n) w L R then some n else none) = none
    rw [ih (fun k hk => h k (by omega))]
    exact if_neg (h n (by omega))
theorem tfd_some {tb : Nat → TR} {w : Nat} {L R : Option Nat} {t : Nat} (h1 : isT (tb t) w L R) (h2 : ∀ k, k < t → ¬ isT (tb k) w L R) : ∀ {n : Nat}, t < n → tfd tb w L R n = some t := by
  intro n
  induction n with
  | zero => intro h; omega
  | succ n ih =>
    intro h
    show (match tfd tb w L R n with | some t => some t | none => if isT (tb n) w L R then some n else none) = some t
    rcases Nat.lt_or_ge t n with q | q
    · rw [ih q]
    · have e : n = t := by omega
      subst e
      rw [tfd_none h2]
      exact if_pos h1
/-- a new row -/
def mkR (tb : Nat → TR) (w a : Nat) (ob : Option Nat) : TR :=
  let cm := decide (w < 9) || ((decide (w = 10) || decide (w = 14) || decide (w = 18)) && tC (tb a) && oB ob (fun k => tC (tb k)))
  let da := !(decide (w = 9) || decide (w = 13) || decide (w = 16) || decide (w = 17)) && tD (tb a) && oB ob (fun k => tD (tb k))
  (w, some a, ob, 1 + tP (tb a) + oP ob (fun k => tP (tb k)), cm, da, da || (decide (w = 16) && oB ob (fun k => tD (tb k))) || (decide (w = 18) && tS (tb a) && oB ob (fun k => tS (tb k))))
def o_row (tb : Nat → TR) (tc : Nat) (w a b : Int32) : Option TR := if 10 ≤ w ∧ w ≤ 18 then (match tN tc a with
  | none => none
  | some k => if w < 14 then (if (w = 12 → tC (tb k) = true) ∧ 1 + tP (tb k) ≤ 200 then some (mkR tb w.toNatClampNeg k none) else none) else (match tN tc b with
    | none => none
    | some i => if ((w = 15 ∨ w = 16) → tC (tb k) = true) ∧ 1 + tP (tb k) + tP (tb i) ≤ 200 then some (mkR tb w.toNatClampNeg k (some i)) else none)) else none
def updT (tb : Nat → TR) (n : Nat) (r : TR) : Nat → TR := fun k => if k = n then r else tb k
/-- the number of a row: the answer, the table and its count -/
def numT (tb : Nat → TR) (tc : Nat) (r : TR) : Option Nat × (Nat → TR) × Nat := match tfd tb (tW r) (tL r) (tR r) tc with
  | some t => (some t, tb, tc)
  | none => if tc = 2000 then (none, tb, tc) else (some tc, updT tb tc r, tc + 1)
def a_type (tb : Nat → TR) (tc : Nat) (w a b : Int32) : Int32 × (Nat → TR) × Nat := match o_row tb tc w a b with
  | none => (-1, tb, tc)
  | some r => match numT tb tc r with | (some t, x) => (nI t, x) | (none, x) => (-2, x)
def a_pair (tb : Nat → TR) (tc : Nat) (RV : Nat → Option VT) (r a b : Int32) : Int32 × (Nat → Option VT) × (Nat → TR) × Nat := match rgs RV a, rgs RV b with
  | some v, some w => if inR r ∧ 1 + tP (tb (vty v)) + tP (tb (vty w)) ≤ 200 then (if 160 < 2 + (cs v).length + (cs w).length then (-2, RV, tb, tc) else (match numT tb tc (mkR tb 18 (vty v) (some (vty w))) with
      | (some t, x) => (nI (2 + (cs v).length + (cs w).length), updR RV r.toNatClampNeg (some (.pow (.add v w) t)), x)
      | (none, x) => (-2, RV, x))) else (-1, RV, tb, tc)
  | _, _ => (-1, RV, tb, tc)
theorem wty_prc {tb : Nat → TR} {t : Nat} (k : VT) : ∀ {ch : VT}, wty tb ch (cmd tb t) t → wty tb (prc ch k) (cmd tb t) t := by
  have h0 : wty tb (.intCast 0) (cmd tb t) t := by
    unfold cmd
    split
    · exact Or.inr (Or.inl rfl)
    · exact Or.inr (Or.inr rfl)
  intro ch
  induction ch with
  | mul e r _ ih =>
    intro h
    obtain ⟨q, hq⟩ | ⟨e', r', he, h1, h2⟩ := ch_cases h
    · cases hq
    · cases he
      unfold prc
      by_cases hk : vo (kyOf e) k < 0
      · rw [if_pos hk]
        have h3 := ih h2
        unfold cmd at h h3 ⊢
        by_cases h12 : tW (tb t) = 12
        · rw [if_pos h12] at h h3 ⊢
          rcases h with ⟨h4, -⟩ | ⟨-, h4, -⟩ | ⟨h4, -⟩
          · exact absurd h4 (by decide)
          · exact Or.inr (Or.inl ⟨rfl, h4, h3⟩)
          · exact absurd h4 (by decide)
        · rw [if_neg h12] at h h3 ⊢
          rcases h with ⟨h4, -⟩ | ⟨h4, -⟩ | ⟨-, h4, -⟩
          · exact absurd h4 (by decide)
          · exact absurd h4 (by decide)
          · exact Or.inr (Or.inr ⟨rfl, h4, h3⟩)
      · rw [if_neg hk]
        exact h0
  | _ => intro h; exact h
theorem wty_cons {tb : Nat → TR} {t : Nat} {e r : VT} (h1 : wen tb t e) (h2 : wty tb r (cmd tb t) t) : wty tb (.mul e r) (cmd tb t) t := by
  unfold cmd at h2 ⊢
  rcases h1 with ⟨h12, h3⟩ | ⟨h12, k, v, rfl, h3, h4⟩
  · rw [if_pos h12] at h2 ⊢
    exact Or.inr (Or.inl ⟨rfl, h3, h2⟩)
  · rw [if_neg h12] at h2 ⊢
    exact Or.inr (Or.inr ⟨rfl, ⟨Or.inr rfl, h3, h4⟩, h2⟩)
theorem app_wty {tb : Nat → TR} {t : Nat} {x : VT} (hx : wty tb x (cmd tb t) t) : ∀ {p : VT}, wty tb p (cmd tb t) t → wty tb (app p x) (cmd tb t) t ∧ cs (app p x) = cs p ++ cs x := by
  intro p
  induction p with
  | mul e r _ ih =>
    intro h
    obtain ⟨q, hq⟩ | ⟨e', r', he, h1, h2⟩ := ch_cases h
    · cases hq
    · cases he
      obtain ⟨a1, a2⟩ := ih h2
      refine ⟨wty_cons h1 a1, ?_⟩
      show cs (.mul e (app r x)) = _
      rw [cs_mul, a2, cs_mul, List.append_assoc]
  | intCast q => intro _; exact ⟨hx, rfl⟩
  | _ => intro h; obtain ⟨q, hq⟩ | ⟨e', r', he, -⟩ := ch_cases h
         · cases hq
         · cases he
theorem skp_thr {tb : Nat → TR} {t : Nat} {ch k : VT} (h : wty tb ch (cmd tb t) t) (ht : thr (skp ch k) k = true) : ∃ e r, skp ch k = .mul e r ∧ wen tb t e ∧ wty tb r (cmd tb t) t ∧ vo (kyOf e) k = 0 := by
  have h1 := wty_skp k h
  obtain ⟨q, hq⟩ | ⟨e, r, he, h2, h3⟩ := ch_cases h1
  · rw [hq] at ht; cases ht
  · rw [he] at ht
    exact ⟨e, r, he, h2, h3, of_decide_eq_true ht⟩
theorem rst_wty {tb : Nat → TR} {t : Nat} {ch k : VT} (h : wty tb ch (cmd tb t) t) : wty tb (rst ch k) (cmd tb t) t := by
  unfold rst
  split
  · next ht =>
    obtain ⟨e, r, he, -, h3, -⟩ := skp_thr h ht
    rw [he]
    exact h3
  · exact wty_skp k h
theorem neg_wty {tb : Nat → TR} {t : Nat} {ch : VT} (hw : tW (tb t) = 12 ∨ tW (tb t) = 15 ∨ tW (tb t) = 16) (h : wty tb ch (cmd tb t) t) : wty tb (.pow (.neg ch) t) 0 t := by
  refine ⟨rfl, rfl, rfl, ?_⟩
  unfold cmd at h
  by_cases h12 : tW (tb t) = 12
  · rw [if_pos h12] at h; exact Or.inl ⟨h12, h⟩
  · rw [if_neg h12] at h; exact Or.inr ⟨by omega, h⟩
theorem cs_neg (ch : VT) (t : Nat) : cs (.pow (.neg ch) t) = 2 :: (size4 (cs ch).length ++ cs ch) := rfl
theorem ins_done {tb : Nat → TR} {t : Nat} {ch k e : VT} (hw : tW (tb t) = 12 ∨ tW (tb t) = 15 ∨ tW (tb t) = 16) (h : wty tb ch (cmd tb t) t) (he : wen tb t e) : wty tb (insE (.pow (.neg ch) t) k e) 0 t ∧ cs (insE (.pow (.neg ch) t) k e) = 2 :: (size4 (cs (prc ch k) ++ (eb e ++ cs (rst ch k))).length ++ (cs (prc ch k) ++ (eb e ++ cs (rst ch k)))) := by
  obtain ⟨a1, a2⟩ := app_wty (wty_cons he (rst_wty (k := k) h)) (wty_prc k h)
  refine ⟨neg_wty hw a1, ?_⟩
  show cs (.pow (.neg (app (prc ch k) (.mul e (rst ch k)))) t) = _
  rw [cs_neg, a2, cs_mul]
theorem rem_done {tb : Nat → TR} {t : Nat} {ch k : VT} (hw : tW (tb t) = 12 ∨ tW (tb t) = 15 ∨ tW (tb t) = 16) (h : wty tb ch (cmd tb t) t) : wty tb (remE (.pow (.neg ch) t) k) 0 t ∧ cs (remE (.pow (.neg ch) t) k) = 2 :: (size4 (cs (prc ch k) ++ ([] ++ cs (rst ch k))).length ++ (cs (prc ch k) ++ ([] ++ cs (rst ch k)))) := by
  obtain ⟨a1, a2⟩ := app_wty (rst_wty (k := k) h) (wty_prc k h)
  refine ⟨neg_wty hw a1, ?_⟩
  show cs (.pow (.neg (app (prc ch k) (rst ch k))) t) = _
  rw [cs_neg, a2]
  rfl
theorem app_back (k : VT) : ∀ (ch : VT), app (prc ch k) (skp ch k) = ch := by
  intro ch
  induction ch with
  | mul e r _ ih =>
    unfold prc skp
    by_cases hk : vo (kyOf e) k < 0
    · rw [if_pos hk, if_pos hk]
      show Lean.Grind.CommRing.Expr.mul e (app (prc r k) (skp r k)) = _
      rw [ih]
    · rw [if_neg hk, if_neg hk]; rfl
  | _ => rfl
theorem rst_t {ch k : VT} (h : thr (skp ch k) k = true) : rst ch k = tlc (skp ch k) := if_pos h
theorem rst_f {ch k : VT} (h : ¬ thr (skp ch k) k = true) : rst ch k = skp ch k := if_neg h
theorem eb_pow {tb : Nat → TR} {v : VT} {t : Nat} (h : wty tb v 0 t) : eb v = cs v := by unfold eb; rw [(en_pow h).1]; rfl
