def sg (a b : Nat) : Int32 := if a < b then -1 else if b < a then 1 else 0
def icmp (a b : Int) : Int32 := if a < b then -1 else if b < a then 1 else 0
/-- rows of bytes in order -/
def lcmp : List Nat → List Nat → Int32
  | [], [] => 0
  | [], _ :: _ => -1
  | _ :: _, [] => 1
  | a :: x, b :: y => if a = b then lcmp x y else sg a b
/-- unit 0; false, none, left 1; true, right, some 2 -/
def rk (a : VT) : Nat := match a with | .var 0 => 0 | .var 1 => 1 | _ => 2
/-- the order of two values of one type -/
def vo : VT → VT → Int32
  | .pow a _, w => match w with | .pow b _ => vo a b | _ => 0
  | .num x, w => match w with | .num y => icmp x y | _ => 0
  | .natCast c, w => match w with | .natCast d => lcmp (rser c) (rser d) | _ => 0
  | .var i, w => match w with | .var j => sg (rk (.var i)) (rk (.var j)) | .sub b _ => sg (rk (.var i)) (rk b) | _ => 0
  | .sub a v, w => match w with | .var j => sg (rk a) (rk (.var j)) | .sub b x => if rk a = rk b then vo v x else sg (rk a) (rk b) | _ => 0
  | .add a b, w => match w with | .add c d => if vo a c = 0 then vo b d else vo a c | _ => 0
  | .intCast _, _ => 0
  | .neg _, _ => 0
  | .mul _ _, _ => 0
theorem sg_nI {a b : Nat} (ha : a < 2 ^ 31) (hb : b < 2 ^ 31) : (if nI a < nI b then (-1 : Int32) else if nI b < nI a then 1 else 0) = sg a b := by
  unfold sg
  by_cases h1 : a < b
  · rw [if_pos ((nI_ltI ha hb).mpr h1), if_pos h1]
  · rw [if_neg (fun h => h1 ((nI_ltI ha hb).mp h)), if_neg h1]
    by_cases h2 : b < a
    · rw [if_pos ((nI_ltI hb ha).mpr h2), if_pos h2]
    · rw [if_neg (fun h => h2 ((nI_ltI hb ha).mp h)), if_neg h2]
theorem sg_0 {a b : Nat} : sg a b = 0 ↔ a = b := by
  unfold sg
  constructor
  · intro h
    by_cases h1 : a < b
    · rw [if_pos h1] at h; exact absurd h (by decide)
    · rw [if_neg h1] at h
      by_cases h2 : b < a
      · rw [if_pos h2] at h; exact absurd h (by decide)
      · omega
  · rintro rfl
    rw [if_neg (by omega), if_neg (by omega)]
theorem sg_lt {a b : Nat} (h : a < b) : sg a b = -1 := if_pos h
theorem sg_gt {a b : Nat} (h : b < a) : sg a b = 1 := by unfold sg; rw [if_neg (by omega), if_pos h]
theorem sg_neg (a b : Nat) : -sg a b = sg b a := by
  rcases Nat.lt_trichotomy a b with h | h | h
  · rw [sg_lt h, sg_gt h]; rfl
  · subst h; rw [sg_0.mpr rfl]; rfl
  · rw [sg_lt h, sg_gt h]
theorem icmp_pos {x y : Int} (hx : ¬ x < 0) (hy : ¬ y < 0) : icmp x y = sg x.natAbs y.natAbs := by
  unfold icmp sg
  by_cases h1 : x < y
  · rw [if_pos h1, if_pos (by omega)]
  · rw [if_neg h1, if_neg (show ¬ x.natAbs < y.natAbs by omega)]
    by_cases h2 : y < x
    · rw [if_pos h2, if_pos (by omega)]
    · rw [if_neg h2, if_neg (by omega)]
theorem icmp_neg {x y : Int} (hx : x < 0) (hy : y < 0) : icmp x y = -sg x.natAbs y.natAbs := by
  rw [sg_neg]
  unfold icmp sg
  by_cases h1 : x < y
  · rw [if_pos h1, if_pos (by omega)]
  · rw [if_neg h1, if_neg (show ¬ y.natAbs < x.natAbs by omega)]
    by_cases h2 : y < x
    · rw [if_pos h2, if_pos (by omega)]
    · rw [if_neg h2, if_neg (by omega)]
theorem dval_lex {f g : Nat → Nat} {n i : Nat} (hf : ∀ k, k < n → f k < 65536) (hi : i < n) (he : ∀ k, i < k → k < n → f k = g k) (h : f i < g i) : dval f n < dval g n := by
  induction n with
  | zero => omega
  | succ n ih =>
    show dval f n + f n * 2 ^ (16 * n) < dval g n + g n * 2 ^ (16 * n)
    rcases Nat.lt_or_ge i n with c | c
    · have h1 := ih (fun k hk => hf k (by omega)) c (fun k a b => he k a (by omega))
      rw [he n c (by omega)]
      omega
    · have e : i = n := by omega
      subst e
      have h1 := dval_lt (fun k (hk : k < i) => hf k (by omega))
      have h2 : (f i + 1) * 2 ^ (16 * i) ≤ g i * 2 ^ (16 * i) := Nat.mul_le_mul_right _ h
      rw [Nat.add_mul] at h2
      omega
theorem dval_cnt {f g : Nat → Nat} {n k : Nat} (hf : ∀ q, q < n → f q < 65536) (h : n < k) (ht : k = 0 ∨ g (k - 1) ≠ 0) : dval f n < dval g k := by
  have h1 := dval_lt hf
  have h2 : dval g k = dval g (k - 1) + g (k - 1) * 2 ^ (16 * (k - 1)) := by
    have e : k = (k - 1) + 1 := by omega
    rw [e]; rfl
  have h3 : 1 * 2 ^ (16 * (k - 1)) ≤ g (k - 1) * 2 ^ (16 * (k - 1)) := Nat.mul_le_mul_right _ (by rcases ht with h | h <;> omega)
  have h4 : 2 ^ (16 * n) ≤ 2 ^ (16 * (k - 1)) := Nat.pow_le_pow_right (by decide) (by omega)
  omega
/-- where a comparison from the top stands: equal so far, or decided -/
def cSt (f g : Nat → Nat) (n k i : Nat) (c : Int32) : Prop := (c = 0 ∧ n = k ∧ ∀ q, i ≤ q → q < n → f q = g q) ∨ (¬ c = 0 ∧ c = sg (dval f n) (dval g k))
theorem cSt_0 {f g : Nat → Nat} {n k : Nat} (hf : ∀ q, q < n → f q < 65536) (hg : ∀ q, q < k → g q < 65536) (tf : n = 0 ∨ f (n - 1) ≠ 0) (tg : k = 0 ∨ g (k - 1) ≠ 0) : cSt f g n k n (sg n k) := by
  rcases Nat.lt_trichotomy n k with h | h | h
  · right
    rw [sg_lt h, sg_lt (dval_cnt hf h tg)]
    exact ⟨by decide, rfl⟩
  · left
    exact ⟨sg_0.mpr h, h, fun q a b => by omega⟩
  · right
    rw [sg_gt h, sg_gt (dval_cnt hg h tf)]
    exact ⟨by decide, rfl⟩
theorem cSt_s {f g : Nat → Nat} {n k i : Nat} {c : Int32} (hf : ∀ q, q < n → f q < 65536) (hg : ∀ q, q < k → g q < 65536) (h : cSt f g n k (i + 1) c) (h0 : c = 0) (hi : i < n) : cSt f g n k i (sg (f i) (g i)) := by
  rcases h with ⟨-, hn, he⟩ | ⟨h1, -⟩
  · subst hn
    rcases Nat.lt_trichotomy (f i) (g i) with q | q | q
    · right
      rw [sg_lt q, sg_lt (dval_lex hf hi (fun k a b => he k (by omega) b) q)]
      exact ⟨by decide, rfl⟩
    · left
      refine ⟨sg_0.mpr q, rfl, fun j a b => ?_⟩
      rcases Nat.lt_or_ge i j with c | c
      · exact he j (by omega) b
      · have e : j = i := by omega
        subst e; exact q
    · right
      rw [sg_gt q, sg_gt (dval_lex hg hi (fun k a b => (he k (by omega) b).symm) q)]
      exact ⟨by decide, rfl⟩
  · exact absurd h0 h1
theorem cSt_e {f g : Nat → Nat} {n k i : Nat} {c : Int32} (h : cSt f g n k i c) (hi : i = 0 ∨ ¬ c = 0) : c = sg (dval f n) (dval g k) := by
  rcases h with ⟨h1, hn, he⟩ | ⟨-, h2⟩
  · rcases hi with hi | hi
    · subst hn hi
      rw [h1]
      exact (sg_0.mpr (dval_congr (fun q hq => he q (by omega) hq))).symm
    · exact absurd h1 hi
  · exact h2
theorem lcmp_step {x y : List Nat} {k : Nat} (hx : k < x.length) (hy : k < y.length) : lcmp (x.drop k) (y.drop k) = if x.getD k 0 = y.getD k 0 then lcmp (x.drop (k + 1)) (y.drop (k + 1)) else sg (x.getD k 0) (y.getD k 0) := by
  rw [List.drop_eq_getElem_cons hx, List.drop_eq_getElem_cons hy, List.getD_eq_getElem?_getD, List.getD_eq_getElem?_getD, List.getElem?_eq_getElem hx, List.getElem?_eq_getElem hy]
  rfl
theorem lcmp_end {x y : List Nat} {k : Nat} (hx : k ≤ x.length) (hy : k ≤ y.length) (h : x.length ≤ k ∨ y.length ≤ k) : lcmp (x.drop k) (y.drop k) = sg x.length y.length := by
  rcases Nat.lt_trichotomy x.length y.length with q | q | q
  · rw [List.drop_of_length_le (show x.length ≤ k by omega), List.drop_eq_getElem_cons (show k < y.length by omega), sg_lt q]; rfl
  · rw [List.drop_of_length_le (show x.length ≤ k by omega), List.drop_of_length_le (show y.length ≤ k by omega), sg_0.mpr q]; rfl
  · rw [List.drop_of_length_le (show y.length ≤ k by omega), List.drop_eq_getElem_cons (show k < x.length by omega), sg_gt q]; rfl
def rSt (x y : List Nat) (k : Nat) (c : Int32) : Prop := (c = 0 ∧ lcmp x y = lcmp (x.drop k) (y.drop k)) ∨ (¬ c = 0 ∧ lcmp x y = c)
theorem rSt_s {x y : List Nat} {k : Nat} {c : Int32} (h : rSt x y k c) (h0 : c = 0) (hx : k < x.length) (hy : k < y.length) : rSt x y (k + 1) (sg (x.getD k 0) (y.getD k 0)) := by
  rcases h with ⟨-, h2⟩ | ⟨h1, -⟩
  · rw [lcmp_step hx hy] at h2
    by_cases e : x.getD k 0 = y.getD k 0
    · rw [if_pos e] at h2; exact Or.inl ⟨sg_0.mpr e, h2⟩
    · rw [if_neg e] at h2; exact Or.inr ⟨fun q => e (sg_0.mp q), h2⟩
  · exact absurd h0 h1
-- what a core is, by its type's word
theorem w_num {tb : Nat → TR} {c : VT} {t : Nat} (h : wty tb c 1 t) (hw : tW (tb t) = 2 ∨ tW (tb t) = 3 ∨ tW (tb t) = 4 ∨ tW (tb t) = 8) : ∃ z, c = .num z ∧ z.natAbs < 2 ^ 1024 := by
  cases c with
  | num z => exact ⟨z, rfl, h.2.2.1⟩
  | _ => simp only [wty] at h; omega
theorem w_row {tb : Nat → TR} {c : VT} {t : Nat} (h : wty tb c 1 t) (hw : tW (tb t) = 5 ∨ tW (tb t) = 6 ∨ tW (tb t) = 7) : ∃ k, c = .natCast k ∧ k % 16 ≤ 8 ∧ k / 16 < 256 ^ (k % 16) ∧ ¬ tW (tb t) = 7 := by
  cases c with
  | natCast k => exact ⟨k, rfl, h.2.2.1, h.2.2.2, by have := h.2.1; omega⟩
  | _ => simp only [wty] at h; omega
theorem w_unit {tb : Nat → TR} {c : VT} {t : Nat} (h : wty tb c 1 t) (hw : tW (tb t) = 0) : c = .var 0 := by
  cases c with
  | var i =>
    obtain ⟨-, ⟨h1, rfl⟩ | ⟨h1, -⟩ | ⟨h1, -⟩⟩ := h
    · rfl
    · omega
    · omega
  | _ => simp only [wty] at h; omega
theorem w_bool {tb : Nat → TR} {c : VT} {t : Nat} (h : wty tb c 1 t) (hw : tW (tb t) = 1) : c = .var 1 ∨ c = .var 2 := by
  cases c with
  | var i =>
    obtain ⟨-, ⟨h1, -⟩ | ⟨h1, rfl | rfl⟩ | ⟨h1, -⟩⟩ := h
    · omega
    · exact Or.inl rfl
    · exact Or.inr rfl
    · omega
  | _ => simp only [wty] at h; omega
theorem w_opt {tb : Nat → TR} {c : VT} {t : Nat} (h : wty tb c 1 t) (hw : tW (tb t) = 10) : c = .var 1 ∨ ∃ v, c = .sub (.var 3) v ∧ wty tb v 0 (lt_ tb t) := by
  cases c with
  | var i =>
    obtain ⟨-, ⟨h1, -⟩ | ⟨h1, -⟩ | ⟨h1, rfl⟩⟩ := h
    · omega
    · omega
    · exact Or.inl rfl
  | sub a v =>
    obtain ⟨-, ⟨-, rfl, h2⟩ | ⟨h1, -⟩ | ⟨h1, -⟩⟩ := h
    · exact Or.inr ⟨v, rfl, h2⟩
    · omega
    · omega
  | _ => simp only [wty] at h; omega
theorem w_or {tb : Nat → TR} {c : VT} {t : Nat} (h : wty tb c 1 t) (hw : tW (tb t) = 14) : (∃ v, c = .sub (.var 1) v ∧ wty tb v 0 (lt_ tb t)) ∨ ∃ v, c = .sub (.var 2) v ∧ wty tb v 0 (rt_ tb t) := by
  cases c with
  | sub a v =>
    obtain ⟨-, ⟨h1, -⟩ | ⟨-, rfl, h2⟩ | ⟨-, rfl, h2⟩⟩ := h
    · omega
    · exact Or.inl ⟨v, rfl, h2⟩
    · exact Or.inr ⟨v, rfl, h2⟩
  | _ => simp only [wty] at h; omega
theorem w_pair {tb : Nat → TR} {c : VT} {t : Nat} (h : wty tb c 1 t) (hw : tW (tb t) = 18) : ∃ x y, c = .add x y ∧ wty tb x 0 (lt_ tb t) ∧ wty tb y 0 (rt_ tb t) := by
  cases c with
  | add x y => exact ⟨x, y, rfl, h.2.1, h.2.2⟩
  | _ => simp only [wty] at h; omega
/-- a comparable type's word, and that its types are such -/
theorem cmp_words {tb : Nat → TR} {n t : Nat} (hO : tOK tb n) (h : t < n) (hc : tC (tb t) = true) : tW (tb t) < 9 ∨ ((tW (tb t) = 10 ∨ tW (tb t) = 14 ∨ tW (tb t) = 18) ∧ tC (tb (lt_ tb t)) = true ∧ (14 ≤ tW (tb t) → tC (tb (rt_ tb t)) = true)) := by
  obtain ⟨r1, r2, r2b, r3, r4, r5, r6, r7, r8, r9, r10⟩ := hO.2.2 t h
  rcases Nat.lt_or_ge (tW (tb t)) 9 with q | q
  · exact Or.inl q
  · right
    rw [r9] at hc
    simp only [Bool.or_eq_true, Bool.and_eq_true, decide_eq_true_eq] at hc
    have h9 : ¬ tW (tb t) < 9 := by omega
    rcases hc with hc | ⟨⟨hw, hl⟩, hr⟩
    · exact absurd hc h9
    · have hw3 : tW (tb t) = 10 ∨ tW (tb t) = 14 ∨ tW (tb t) = 18 := by omega
      refine ⟨hw3, ?_, fun h14 => ?_⟩
      · rw [(tl_some hO h (by omega)).1] at hl; exact hl
      · rw [(tr_some hO h h14).1] at hr; exact hr
theorem cmp_cases {tb : Nat → TR} {n t : Nat} (hO : tOK tb n) (h : t < n) (hc : tC (tb t) = true) : (tW (tb t) = 2 ∨ tW (tb t) = 3 ∨ tW (tb t) = 4 ∨ tW (tb t) = 8) ∨ (tW (tb t) = 5 ∨ tW (tb t) = 6 ∨ tW (tb t) = 7) ∨ tW (tb t) = 0 ∨ tW (tb t) = 1 ∨ (tW (tb t) = 10 ∧ tC (tb (lt_ tb t)) = true) ∨ (tW (tb t) = 14 ∧ tC (tb (lt_ tb t)) = true ∧ tC (tb (rt_ tb t)) = true) ∨ (tW (tb t) = 18 ∧ tC (tb (lt_ tb t)) = true ∧ tC (tb (rt_ tb t)) = true) := by
  rcases cmp_words hO h hc with q | ⟨q1 | q1 | q1, q2, q3⟩
  · omega
  · exact Or.inr (Or.inr (Or.inr (Or.inr (Or.inl ⟨q1, q2⟩))))
  · exact Or.inr (Or.inr (Or.inr (Or.inr (Or.inr (Or.inl ⟨q1, q2, q3 (by omega)⟩)))))
  · exact Or.inr (Or.inr (Or.inr (Or.inr (Or.inr (Or.inr ⟨q1, q2, q3 (by omega)⟩)))))
theorem not_one {tb : Nat → TR} {n t : Nat} (hO : tOK tb n) (h : t < n) (hw : ¬ tW (tb t) = 1) : ¬ t = 1 := fun h9 => by
  subst h9
  exact hw ((hO.2.2 1 h).2.2.1 (by decide))
theorem is_word {tb : Nat → TR} {n t : Nat} (hO : tOK tb n) (h : t < n) (hw : tW (tb t) < 10) : t = tW (tb t) := ((hO.2.2 t h).2.1 hw).symm
