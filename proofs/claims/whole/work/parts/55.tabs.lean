/-- forms with i bytes copied from b to a -/
def cpM (F : Nat → Nat) (a b i : Nat) : Nat → Nat := fun k => if a ≤ k ∧ k < a + i then F (b + (k - a)) else F k
theorem cpM_0 {F : Nat → Nat} {a b : Nat} : cpM F a b 0 = F := by funext k; unfold cpM; rw [if_neg (by omega)]
theorem cpM_s {F : Nat → Nat} {a b i : Nat} (h : a = b ∨ b + 160 ≤ a ∨ a + 160 ≤ b) (hi : i < 160) : updN (cpM F a b i) (a + i) (cpM F a b i (b + i)) = cpM F a b (i + 1) := by
  have e : cpM F a b i (b + i) = F (b + i) := by
    unfold cpM
    by_cases hq : a ≤ b + i ∧ b + i < a + i
    · exfalso; omega
    · rw [if_neg hq]
  rw [e]
  funext k
  unfold updN
  by_cases hk : k = a + i
  · subst hk
    rw [if_pos rfl]
    unfold cpM
    rw [if_pos (by omega), Nat.add_sub_cancel_left]
  · rw [if_neg hk]
    unfold cpM
    by_cases h2 : a ≤ k ∧ k < a + i
    · rw [if_pos h2, if_pos (by omega)]
    · rw [if_neg h2, if_neg (by omega)]
theorem mR_move {tc : Nat} {tb : Nat → TR} {ty sz : Nat → Int32} {F : Nat → Nat} {RV : Nat → Option VT} (h : mR tc tb ty sz F RV) {a b : Nat} (ha : a < 16) (hb : b < 16) : mR tc tb (upd ty a (ty b)) (upd sz a (sz b)) (cpM F (160 * a) (160 * b) 160) (updR RV a (RV b)) := by
  refine ⟨fun k => ?_, fun j hj => ?_⟩
  · unfold cpM
    split
    · exact h.1 _
    · exact h.1 _
  · by_cases hij : j = a
    · subst hij
      rw [show updR RV j (RV b) j = RV b from if_pos rfl, upd_s, upd_s]
      refine ⟨(h.2 b hb).1, fun v hv => ?_⟩
      obtain ⟨t, a1, a2, a3, a4, a5, a6⟩ := (h.2 b hb).2 v hv
      refine ⟨t, a1, a2, a3, a4, a5, fun k hk => ?_⟩
      unfold cpM
      rw [if_pos (by omega), Nat.add_sub_cancel_left]
      exact a6 k hk
    · rw [show updR RV a (RV b) j = RV j from if_neg hij, upd_n hij, upd_n hij]
      refine ⟨(h.2 j hj).1, fun v hv => ?_⟩
      obtain ⟨t, a1, a2, a3, a4, a5, a6⟩ := (h.2 j hj).2 v hv
      refine ⟨t, a1, a2, a3, a4, a5, fun k hk => ?_⟩
      unfold cpM
      rw [if_neg (by omega)]
      exact a6 k hk
/-- a row that may be added -/
def rowOK (tb : Nat → TR) (tc w a : Nat) (ob : Option Nat) : Prop := 10 ≤ w ∧ w ≤ 18 ∧ a < tc ∧ (ob = none ↔ w < 14) ∧ (∀ k, ob = some k → k < tc) ∧ 1 + tP (tb a) + oP ob (fun k => tP (tb k)) ≤ 200 ∧ ((w = 12 ∨ w = 15 ∨ w = 16) → tC (tb a) = true)
theorem rOK_ext {tb tb' : Nat → TR} {t : Nat} {r : TR} (h : rOK tb t r) (he : ∀ k, k < t → tb' k = tb k) : rOK tb' t r := by
  obtain ⟨r1, r2, r2b, r3, r4, r5, r6, r7, r8, r9, r10, r11, r12⟩ := h
  cases hL : tL r with
  | none =>
    cases hR : tR r with
    | none =>
      rw [hL, hR] at r7 r9 r10 r11
      rw [hL] at r12
      unfold rOK
      rw [hL, hR]
      exact ⟨r1, r2, r2b, (by have := r3; rw [hL] at this; first | exact this | simpa using this), (by have := r4; rw [hR] at this; first | exact this | simpa using this), (fun k hk => by cases hk), (fun k hk => by cases hk), r7, r8, r9, r10, r11, r12⟩
    | some b =>
      rw [hL, hR] at r7 r9 r10 r11
      rw [hL] at r12
      unfold rOK
      have eb := he b (r6 b hR)
      rw [hL, hR]
      simp only [oP, oB, eb] at r7 r9 r10 r11 r12 ⊢
      exact ⟨r1, r2, r2b, (by have := r3; rw [hL] at this; first | exact this | simpa using this), (by have := r4; rw [hR] at this; first | exact this | simpa using this), (fun k hk => by cases hk), (fun k hk => r6 k (by rw [hR]; exact hk)), r7, r8, r9, r10, r11, r12⟩
  | some a =>
    have ea := he a (r5 a hL)
    cases hR : tR r with
    | none =>
      rw [hL, hR] at r7 r9 r10 r11
      rw [hL] at r12
      unfold rOK
      rw [hL, hR]
      simp only [oP, oB, ea] at r7 r9 r10 r11 r12 ⊢
      exact ⟨r1, r2, r2b, (by have := r3; rw [hL] at this; first | exact this | simpa using this), (by have := r4; rw [hR] at this; first | exact this | simpa using this), (fun k hk => r5 k (by rw [hL]; exact hk)), (fun k hk => by cases hk), r7, r8, r9, r10, r11, r12⟩
    | some b =>
      have eb := he b (r6 b hR)
      rw [hL, hR] at r7 r9 r10 r11
      rw [hL] at r12
      unfold rOK
      rw [hL, hR]
      simp only [oP, oB, ea, eb] at r7 r9 r10 r11 r12 ⊢
      exact ⟨r1, r2, r2b, (by have := r3; rw [hL] at this; first | exact this | simpa using this), (by have := r4; rw [hR] at this; first | exact this | simpa using this), (fun k hk => r5 k (by rw [hL]; exact hk)), (fun k hk => r6 k (by rw [hR]; exact hk)), r7, r8, r9, r10, r11, r12⟩
theorem updT_o {tb : Nat → TR} {n k : Nat} {r : TR} (h : k < n) : updT tb n r k = tb k := if_neg (by omega)
theorem updT_s {tb : Nat → TR} {n : Nat} {r : TR} : updT tb n r n = r := if_pos rfl
theorem mkR_OK {tb : Nat → TR} {tc w a : Nat} {ob : Option Nat} (h : rowOK tb tc w a ob) (h10 : 10 ≤ tc) : rOK tb tc (mkR tb w a ob) := by
  obtain ⟨h1, h2, h3, h4, h5, h6, h7⟩ := h
  refine ⟨h2, fun q => absurd q (by show ¬ w < 10; omega), fun q => absurd q (by omega), ⟨(fun q => by cases q), fun q => absurd q (by show ¬ w < 10; omega)⟩, h4, (fun k hk => by cases hk; exact h3), h5, rfl, h6, rfl, rfl, rfl, h7⟩
theorem tOK_new {tb : Nat → TR} {tc w a : Nat} {ob : Option Nat} (hO : tOK tb tc) (h : rowOK tb tc w a ob) (hc : tc < 2000) : tOK (updT tb tc (mkR tb w a ob)) (tc + 1) := by
  refine ⟨by omega, by have := hO.2.1; omega, fun t ht => ?_⟩
  rcases Nat.lt_or_ge t tc with q | q
  · rw [updT_o q]
    exact rOK_ext (hO.2.2 t q) (fun k hk => updT_o (by omega))
  · have e : t = tc := by omega
    subst e
    rw [updT_s]
    exact rOK_ext (mkR_OK h hO.2.1) (fun k hk => updT_o hk)
theorem lt_lt {tb : Nat → TR} {n t : Nat} (hO : tOK tb n) (h : t < n) : lt_ tb t < n ∧ rt_ tb t < n := by
  obtain ⟨r1, r2, r2b, r3, r4, r5, r6, r7, r8⟩ := hO.2.2 t h
  have h10 := hO.2.1
  constructor
  · unfold lt_
    cases hL : tL (tb t) with
    | none => show 0 < n; omega
    | some k => have := r5 k hL; show k < n; omega
  · unfold rt_
    cases hR : tR (tb t) with
    | none => show 0 < n; omega
    | some k => have := r6 k hR; show k < n; omega
theorem wty_ext {tb tb' : Nat → TR} {n : Nat} (hO : tOK tb n) (he : ∀ k, k < n → tb' k = tb k) : ∀ (v : VT) (md t : Nat), t < n → wty tb v md t → wty tb' v md t := by
  have el : ∀ t, t < n → lt_ tb' t = lt_ tb t := fun t ht => by unfold lt_; rw [he t ht]
  have er : ∀ t, t < n → rt_ tb' t = rt_ tb t := fun t ht => by unfold rt_; rw [he t ht]
  intro v
  induction v with
  | num z => intro md t ht h; simp only [wty] at h ⊢; rw [he t ht]; exact h
  | natCast c => intro md t ht h; simp only [wty] at h ⊢; rw [he t ht]; exact h
  | intCast c => intro md t ht h; simp only [wty] at h ⊢; rw [he t ht]; exact h
  | var i => intro md t ht h; simp only [wty] at h ⊢; rw [he t ht]; exact h
  | neg a ih =>
    intro md t ht h
    simp only [wty] at h ⊢
    rw [he t ht]
    exact ⟨h.1, h.2.imp (fun q => ⟨q.1, ih _ _ ht q.2⟩) (fun q => ⟨q.1, ih _ _ ht q.2⟩)⟩
  | add a b iha ihb =>
    intro md t ht h
    simp only [wty] at h ⊢
    rw [he t ht, el t ht, er t ht]
    exact ⟨h.1, iha _ _ (lt_lt hO ht).1 h.2.1, ihb _ _ (lt_lt hO ht).2 h.2.2⟩
  | sub a b _ ihb =>
    intro md t ht h
    simp only [wty] at h ⊢
    rw [he t ht, el t ht, er t ht]
    exact ⟨h.1, h.2.imp (fun q => ⟨q.1, q.2.1, ihb _ _ (lt_lt hO ht).1 q.2.2⟩) (fun q => q.imp (fun q => ⟨q.1, q.2.1, ihb _ _ (lt_lt hO ht).1 q.2.2⟩) (fun q => ⟨q.1, q.2.1, ihb _ _ (lt_lt hO ht).2 q.2.2⟩))⟩
  | mul a b iha ihb =>
    intro md t ht h
    simp only [wty] at h ⊢
    rw [he t ht, el t ht]
    exact h.imp (fun q => ⟨q.1, q.2.1, iha _ _ (lt_lt hO ht).1 q.2.2.1, ihb _ _ ht q.2.2.2⟩) (fun q => q.imp (fun q => ⟨q.1, iha _ _ (lt_lt hO ht).1 q.2.1, ihb _ _ ht q.2.2⟩) (fun q => ⟨q.1, iha _ _ ht q.2.1, ihb _ _ ht q.2.2⟩))
  | pow c ty ih =>
    intro md t ht h
    simp only [wty] at h ⊢
    exact ⟨h.1, h.2.1, ih _ _ ht h.2.2⟩
theorem mR_ext {tb tb' : Nat → TR} {n n' : Nat} {ty sz : Nat → Int32} {F : Nat → Nat} {RV : Nat → Option VT} (hO : tOK tb n) (he : ∀ k, k < n → tb' k = tb k) (hn : n ≤ n') (h : mR n tb ty sz F RV) : mR n' tb' ty sz F RV := by
  refine ⟨h.1, fun j hj => ⟨(h.2 j hj).1, fun v hv => ?_⟩⟩
  obtain ⟨t, a1, a2, a3, a4⟩ := (h.2 j hj).2 v hv
  exact ⟨t, by omega, a2, wty_ext hO he v 0 t a1 a3, a4⟩
theorem oI_inj {x y : Option Nat} (hx : ∀ k, x = some k → k < 2 ^ 31) (hy : ∀ k, y = some k → k < 2 ^ 31) : oI x = oI y ↔ x = y := by
  constructor
  · intro h
    cases x with
    | none =>
      cases y with
      | none => rfl
      | some b =>
        exfalso
        have h9 : (-1 : Int32) = nI b := h
        have h8 := nI_pos' (hy b rfl)
        rw [← h9] at h8
        revert h8; decide
    | some a =>
      cases y with
      | none =>
        exfalso
        have h9 : nI a = (-1 : Int32) := h
        have h8 := nI_pos' (hx a rfl)
        rw [h9] at h8
        revert h8; decide
      | some b => rw [(nI_eq (hx a rfl) (hy b rfl)).mp h]
  · intro h; rw [h]
theorem row_iff {tb : Nat → TR} {tc : Nat} {wd lf rt : Nat → Int32} (hO : tOK tb tc) (hT : mT tb tc wd lf rt) {w : Nat} {L R : Option Nat} (hw : w < 2 ^ 31) (hL : ∀ k, L = some k → k < tc) (hR : ∀ k, R = some k → k < tc) {k : Nat} (hk : k < tc) : (wd k = nI w ∧ lf k = oI L ∧ rt k = oI R) ↔ isT (tb k) w L R := by
  obtain ⟨r1, r2, r2b, r3, r4, r5, r6, r7, r8⟩ := hO.2.2 k hk
  obtain ⟨e1, e2, e3⟩ := hT k hk
  have h20 := hO.1
  rw [e1, e2, e3, nI_eq (by omega) hw, oI_inj (fun i hi => by have := r5 i hi; omega) (fun i hi => by have := hL i hi; omega), oI_inj (fun i hi => by have := r6 i hi; omega) (fun i hi => by have := hR i hi; omega)]
theorem find_fork {tb : Nat → TR} {tc : Nat} {wd lf rt : Nat → Int32} (hO : tOK tb tc) (hT : mT tb tc wd lf rt) {w : Nat} {L R : Option Nat} (hw : w < 2 ^ 31) (hL : ∀ k, L = some k → k < tc) (hR : ∀ k, R = some k → k < tc) {v : Value}
    (h : (∃ t, t < tc ∧ (wd t = nI w ∧ lf t = oI L ∧ rt t = oI R) ∧ (∀ k, k < t → ¬ (wd k = nI w ∧ lf k = oI L ∧ rt k = oI R)) ∧ v = .int (nI t)) ∨ ((∀ k, k < tc → ¬ (wd k = nI w ∧ lf k = oI L ∧ rt k = oI R)) ∧ v = .int (-1))) :
    (∃ t, t < tc ∧ tfd tb w L R tc = some t ∧ isT (tb t) w L R ∧ v = .int (nI t)) ∨ (tfd tb w L R tc = none ∧ v = .int (-1)) := by
  rcases h with ⟨t, h1, h2, h3, h4⟩ | ⟨h1, h2⟩
  · have h5 := (row_iff hO hT hw hL hR h1).mp h2
    exact Or.inl ⟨t, h1, tfd_some h5 (fun k hk q => h3 k hk ((row_iff hO hT hw hL hR (by omega)).mpr q)) h1, h5, h4⟩
  · exact Or.inr ⟨tfd_none (fun k hk q => h1 k hk ((row_iff hO hT hw hL hR hk).mpr q)), h2⟩
theorem mT_new {tb : Nat → TR} {tc w a : Nat} {ob : Option Nat} {wd lf rt : Nat → Int32} (hT : mT tb tc wd lf rt) : mT (updT tb tc (mkR tb w a ob)) (tc + 1) (upd wd tc (nI w)) (upd lf tc (nI a)) (upd rt tc (oI ob)) := by
  intro t ht
  rcases Nat.lt_or_ge t tc with q | q
  · rw [updT_o q, upd_n (by omega), upd_n (by omega), upd_n (by omega)]
    exact hT t q
  · have e : t = tc := by omega
    subst e
    rw [updT_s, upd_s, upd_s, upd_s]
    exact ⟨rfl, rfl, rfl⟩
theorem numT_some {tb : Nat → TR} {tc w a t : Nat} {ob : Option Nat} (h : tfd tb w (some a) ob tc = some t) : numT tb tc (mkR tb w a ob) = (some t, tb, tc) := by
  show (match tfd tb w (some a) ob tc with | some t => (some t, tb, tc) | none => _) = _
  rw [h]
theorem numT_new {tb : Nat → TR} {tc w a : Nat} {ob : Option Nat} (h : tfd tb w (some a) ob tc = none) (hc : ¬ tc = 2000) : numT tb tc (mkR tb w a ob) = (some tc, updT tb tc (mkR tb w a ob), tc + 1) := by
  show (match tfd tb w (some a) ob tc with | some t => (some t, tb, tc) | none => if tc = 2000 then (none, tb, tc) else (some tc, updT tb tc (mkR tb w a ob), tc + 1)) = _
  rw [h]
  exact if_neg hc
theorem numT_full {tb : Nat → TR} {tc w a : Nat} {ob : Option Nat} (h : tfd tb w (some a) ob tc = none) (hc : tc = 2000) : numT tb tc (mkR tb w a ob) = (none, tb, tc) := by
  show (match tfd tb w (some a) ob tc with | some t => (some t, tb, tc) | none => if tc = 2000 then (none, tb, tc) else (some tc, updT tb tc (mkR tb w a ob), tc + 1)) = _
  rw [h]
  exact if_pos hc
theorem row_1 {tb : Nat → TR} {tc wn ka : Nat} {b : Int32} (hc : tc ≤ 2000) (h1 : 10 ≤ wn) (h2 : wn < 14) (hk : ka < tc) : o_row tb tc (nI wn) (nI ka) b = if (wn = 12 → tC (tb ka) = true) ∧ 1 + tP (tb ka) ≤ 200 then some (mkR tb wn ka none) else none := by
  unfold o_row
  rw [show (10 : Int32) = nI 10 from rfl, show (18 : Int32) = nI 18 from rfl, if_pos ⟨(nI_leI (by decide) (by omega)).mpr h1, (nI_leI (by omega) (by decide)).mpr (by omega)⟩, tN_nI hk hc]
  dsimp only
  rw [show (14 : Int32) = nI 14 from rfl, if_pos ((nI_ltI (by omega) (by decide)).mpr h2), show (12 : Int32) = nI 12 from rfl]
  simp only [show (nI wn = nI 12 ↔ wn = 12) from nI_eq (by omega) (by decide), nI_clamp (show wn < 2 ^ 31 by omega)]
theorem row_2 {tb : Nat → TR} {tc wn ka kb : Nat} (hc : tc ≤ 2000) (h1 : 14 ≤ wn) (h2 : wn ≤ 18) (hk : ka < tc) (hb : kb < tc) : o_row tb tc (nI wn) (nI ka) (nI kb) = if ((wn = 15 ∨ wn = 16) → tC (tb ka) = true) ∧ 1 + tP (tb ka) + tP (tb kb) ≤ 200 then some (mkR tb wn ka (some kb)) else none := by
  unfold o_row
  rw [show (10 : Int32) = nI 10 from rfl, show (18 : Int32) = nI 18 from rfl, if_pos ⟨(nI_leI (by decide) (by omega)).mpr (by omega), (nI_leI (by omega) (by decide)).mpr h2⟩, tN_nI hk hc]
  dsimp only
  rw [show (14 : Int32) = nI 14 from rfl, if_neg (fun q => absurd ((nI_ltI (by omega) (by decide)).mp q) (by omega)), tN_nI hb hc]
  dsimp only
  rw [show (15 : Int32) = nI 15 from rfl, show (16 : Int32) = nI 16 from rfl]
  simp only [show (nI wn = nI 15 ↔ wn = 15) from nI_eq (by omega) (by decide), show (nI wn = nI 16 ↔ wn = 16) from nI_eq (by omega) (by decide), nI_clamp (show wn < 2 ^ 31 by omega)]
theorem row_w {tb : Nat → TR} {tc : Nat} {w a b : Int32} (h : ¬ (10 ≤ w ∧ w ≤ 18)) : o_row tb tc w a b = none := if_neg h
theorem row_a {tb : Nat → TR} {tc : Nat} {w a b : Int32} (h : tN tc a = none) : o_row tb tc w a b = none := by
  unfold o_row
  rw [h]
  exact ite_self _
theorem row_b {tb : Nat → TR} {tc wn : Nat} {a b : Int32} (h14 : 14 ≤ wn) (h18 : wn ≤ 18) (h : tN tc b = none) : o_row tb tc (nI wn) a b = none := by
  unfold o_row
  rw [h]
  split
  · cases tN tc a with
    | none => rfl
    | some k => dsimp only; rw [show (14 : Int32) = nI 14 from rfl, if_neg (fun q => absurd ((nI_ltI (by omega) (by decide)).mp q) (by omega))]
  · rfl
theorem ty_none {tb : Nat → TR} {tc : Nat} {w a b : Int32} (h : o_row tb tc w a b = none) : a_type tb tc w a b = (-1, tb, tc) := by unfold a_type; rw [h]
theorem ty_some {tb : Nat → TR} {tc : Nat} {w a b : Int32} {r : TR} {t : Nat} {x : (Nat → TR) × Nat} (h : o_row tb tc w a b = some r) (h2 : numT tb tc r = (some t, x)) : a_type tb tc w a b = (nI t, x) := by unfold a_type; rw [h]; dsimp only; rw [h2]
theorem ty_full {tb : Nat → TR} {tc : Nat} {w a b : Int32} {r : TR} {x : (Nat → TR) × Nat} (h : o_row tb tc w a b = some r) (h2 : numT tb tc r = (none, x)) : a_type tb tc w a b = (-2, x) := by unfold a_type; rw [h]; dsimp only; rw [h2]
