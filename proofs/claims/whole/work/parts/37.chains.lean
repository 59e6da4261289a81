/-- an entry's bytes; its key; what is in front of a key in a chain, and what is not -/
def eb (e : VT) : List Nat := en e ++ cs e
def kyOf (e : VT) : VT := match e with | .add k _ => k | x => x
def skp : VT → VT → VT
  | .mul e r, k => if vo (kyOf e) k < 0 then skp r k else .mul e r
  | x, _ => x
def prc : VT → VT → VT
  | .mul e r, k => if vo (kyOf e) k < 0 then .mul e (prc r k) else .intCast 0
  | x, _ => x
def app : VT → VT → VT
  | .mul e r, x => .mul e (app r x)
  | _, x => x
def tlc (c : VT) : VT := match c with | .mul _ r => r | x => x
/-- the mode of a tree's chain -/
def cmd (tb : Nat → TR) (t : Nat) : Nat := if tW (tb t) = 12 then 2 else 3
/-- an entry of a tree of type t -/
def wen (tb : Nat → TR) (t : Nat) (e : VT) : Prop := (tW (tb t) = 12 ∧ wty tb e 0 (lt_ tb t)) ∨ (¬ tW (tb t) = 12 ∧ ∃ k v, e = .add k v ∧ wty tb k 0 (lt_ tb t) ∧ wty tb v 0 (rt_ tb t))
theorem cs_mul (e r : VT) : cs (.mul e r) = eb e ++ cs r := by show en e ++ (cs e ++ cs r) = _; rw [← List.append_assoc]; rfl
theorem cs_ge {tb : Nat → TR} {v : VT} {t : Nat} (h : wty tb v 0 t) : 2 ≤ (cs v).length := by
  obtain ⟨c, rfl, hc⟩ := wty_pow h
  cases c with
  | num z => rw [l_num, nser_len]; omega
  | natCast k => rw [l_row]; omega
  | intCast k => rw [l_nil]; omega
  | var i => rw [l_var]; omega
  | neg a => rw [l_neg]; omega
  | add a b => rw [l_add]; omega
  | sub a b => rw [l_sub]; omega
  | mul a b => rw [l_mul]; omega
  | pow a b => exact absurd hc.1 (by decide)
theorem en_pow {tb : Nat → TR} {v : VT} {t : Nat} (h : wty tb v 0 t) : en v = [] ∧ kyOf v = v := by
  obtain ⟨c, rfl, -⟩ := wty_pow h
  exact ⟨rfl, rfl⟩
theorem eb_ge {tb : Nat → TR} {t : Nat} {e : VT} (h : wen tb t e) : 2 ≤ (eb e).length := by
  rcases h with ⟨-, h⟩ | ⟨-, k, v, rfl, h1, h2⟩
  · unfold eb; rw [(en_pow h).1]; exact cs_ge h
  · have := cs_ge h1
    show 2 ≤ ([7, 4] ++ (cs k ++ cs v)).length
    simp
/-- a chain of a tree: empty, or an entry and a chain -/
theorem ch_cases {tb : Nat → TR} {t : Nat} {ch : VT} (h : wty tb ch (cmd tb t) t) : (∃ k, ch = .intCast k) ∨ ∃ e r, ch = .mul e r ∧ wen tb t e ∧ wty tb r (cmd tb t) t := by
  unfold cmd at h ⊢
  by_cases h12 : tW (tb t) = 12
  · rw [if_pos h12] at h ⊢
    cases ch with
    | intCast k => exact Or.inl ⟨k, rfl⟩
    | mul e r =>
      rcases h with ⟨h1, -⟩ | ⟨-, h2, h3⟩ | ⟨h1, -⟩
      · exact absurd h1 (by decide)
      · exact Or.inr ⟨e, r, rfl, Or.inl ⟨h12, h2⟩, h3⟩
      · exact absurd h1 (by decide)
    | add a b => simp [wty] at h
    | _ => exact absurd h.1 (by decide)
  · rw [if_neg h12] at h ⊢
    cases ch with
    | intCast k => exact Or.inl ⟨k, rfl⟩
    | mul e r =>
      rcases h with ⟨h1, -⟩ | ⟨h1, -⟩ | ⟨-, h2, h3⟩
      · exact absurd h1 (by decide)
      · exact absurd h1 (by decide)
      · refine Or.inr ⟨e, r, rfl, Or.inr ⟨h12, ?_⟩, h3⟩
        cases e with
        | add k v => exact ⟨k, v, rfl, h2.2.1, h2.2.2⟩
        | mul a b => simp [wty] at h2
        | intCast k => simp [wty] at h2
        | _ => exact absurd h2.1 (by decide)
    | add a b => simp [wty] at h
    | _ => exact absurd h.1 (by decide)
theorem cs_split {tb : Nat → TR} {t : Nat} (k : VT) : ∀ {ch : VT}, wty tb ch (cmd tb t) t → cs ch = cs (prc ch k) ++ cs (skp ch k) := by
  intro ch
  induction ch with
  | mul e r _ ih =>
    intro h
    obtain ⟨q, hq⟩ | ⟨e', r', he, h1, h2⟩ := ch_cases h
    · cases hq
    · cases he
      unfold prc skp
      by_cases hk : vo (kyOf e) k < 0
      · rw [if_pos hk, if_pos hk, cs_mul, cs_mul, ih h2, List.append_assoc]
      · rw [if_neg hk, if_neg hk]; rfl
  | intCast q => intro _; rfl
  | _ => intro h; obtain ⟨q, hq⟩ | ⟨e', r', he, -⟩ := ch_cases h
         · cases hq
         · cases he
theorem wty_skp {tb : Nat → TR} {t : Nat} (k : VT) : ∀ {ch : VT}, wty tb ch (cmd tb t) t → wty tb (skp ch k) (cmd tb t) t := by
  intro ch
  induction ch with
  | mul e r _ ih =>
    intro h
    obtain ⟨q, hq⟩ | ⟨e', r', he, h1, h2⟩ := ch_cases h
    · cases hq
    · cases he
      unfold skp
      by_cases hk : vo (kyOf e) k < 0
      · rw [if_pos hk]; exact ih h2
      · rw [if_neg hk]; exact h
  | _ => intro h; exact h
def thr (c k : VT) : Bool := match c with | .mul e _ => decide (vo (kyOf e) k = 0) | _ => false
theorem key_at {tb : Nat → TR} {F : Nat → Nat} {t a : Nat} {e : VT} (h : wen tb t e) (hf : fAt F a (eb e)) : fAt F (if tW (tb t) = 12 then a else a + 2) (cs (kyOf e)) ∧ (if tW (tb t) = 12 then a else a + 2) + (cs (kyOf e)).length ≤ a + (eb e).length ∧ wty tb (kyOf e) 0 (lt_ tb t) := by
  rcases h with ⟨h1, h2⟩ | ⟨h1, k, v, rfl, h2, h3⟩
  · rw [if_pos h1, (en_pow h2).2]
    have e9 : eb e = cs e := by unfold eb; rw [(en_pow h2).1]; rfl
    rw [e9] at hf ⊢
    exact ⟨hf, Nat.le_refl _, h2⟩
  · rw [if_neg h1]
    have hf : fAt F a ([7, 4] ++ (cs k ++ cs v)) := hf
    rw [fAt_app, fAt_app] at hf
    refine ⟨hf.2.1, ?_, h2⟩
    show a + 2 + (cs k).length ≤ a + ([7, 4] ++ (cs k ++ cs v)).length
    simp; omega
theorem tree_cmp {tb : Nat → TR} {n t : Nat} (hO : tOK tb n) (h : t < n) (hw : tW (tb t) = 12 ∨ tW (tb t) = 15 ∨ tW (tb t) = 16) : tC (tb (lt_ tb t)) = true := by
  obtain ⟨r1, r2, r2b, r3, r4, r5, r6, r7, r8, r9, r10, r11, r12⟩ := hO.2.2 t h
  have := r12 hw
  rw [(tl_some hO h (by omega)).1] at this
  exact this
theorem prc_lt {e r k : VT} (h : vo (kyOf e) k < 0) : prc (.mul e r) k = .mul e (prc r k) ∧ skp (.mul e r) k = skp r k := ⟨if_pos h, if_pos h⟩
theorem prc_ge {e r k : VT} (h : ¬ vo (kyOf e) k < 0) : prc (.mul e r) k = .intCast 0 ∧ skp (.mul e r) k = .mul e r := ⟨if_neg h, if_neg h⟩
theorem size4_lt (n : Nat) : ∀ b ∈ size4 n, b < 256 := by
  intro b hb
  simp [size4] at hb
  omega
theorem nser_lt (z : Int) : ∀ b ∈ nser z, b < 256 := by
  intro b hb
  unfold nser at hb
  rcases List.mem_cons.mp hb with h | h
  · rw [h]; split <;> split <;> omega
  · obtain ⟨j, -, rfl⟩ := List.mem_map.mp h
    unfold nbyte
    have := Nat.mod_lt (z.natAbs / 2 ^ (6 + 7 * j)) (show 0 < 128 by decide)
    split <;> omega
theorem hdr_lt (c : VT) (ty : Nat) (b : List Nat) : ∀ x ∈ hdr c ty b, x < 256 := by
  intro x hx
  cases c <;> simp only [hdr, List.mem_cons, List.not_mem_nil, or_false] at hx
  · omega
  · rcases hx with h | h
    · rw [h]; split <;> omega
    · exact size4_lt _ _ h
  · rcases hx with h | h
    · omega
    · exact size4_lt _ _ h
  · rcases hx with h | h
    · omega
    · rw [h]; unfold vtag; split
      · omega
      · split
        · split <;> omega
        · omega
  · rcases hx with h | h
    · omega
    · exact size4_lt _ _ h
  · omega
  · rcases hx with h | h
    · omega
    · rw [h]; unfold tg; split <;> omega
  · rcases hx with h | h
    · omega
    · exact size4_lt _ _ h
  · rcases hx with h | h
    · omega
    · exact size4_lt _ _ h
theorem en_lt (a : VT) : ∀ b ∈ en a, b < 256 := by
  intro b hb
  cases a <;> simp [en] at hb
  omega
theorem cs_lt : ∀ (v : VT), ∀ b ∈ cs v, b < 256 := by
  intro v
  induction v with
  | num z => exact nser_lt z
  | natCast c =>
    intro b hb
    obtain ⟨j, -, rfl⟩ := List.mem_map.mp hb
    exact Nat.mod_lt _ (by decide)
  | intCast k => intro b hb; cases hb
  | var i => intro b hb; cases hb
  | neg a ih => exact ih
  | add a b iha ihb => intro x hx; exact (List.mem_append.mp hx).elim (iha x) (ihb x)
  | sub a b _ ihb => exact ihb
  | mul a b iha ihb => intro x hx; exact (List.mem_append.mp hx).elim (en_lt a x) (fun h => (List.mem_append.mp h).elim (iha x) (ihb x))
  | pow c t ih => intro x hx; exact (List.mem_append.mp hx).elim (hdr_lt _ _ _ x) (ih x)
theorem cs_getD (v : VT) (k : Nat) : (cs v).getD k 0 < 256 := by
  rw [List.getD_eq_getElem?_getD]
  cases h : (cs v)[k]? with
  | none => simp
  | some b => exact cs_lt v b (List.mem_of_getElem? h)
