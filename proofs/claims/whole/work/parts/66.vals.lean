/-- what stood in the heap stands there still -/
def nU (H0 H : Heap) : Prop := H0.size ≤ H.size ∧ ∀ x : Nat, x < H0.size → H[x]? = H0[x]?
theorem nU.rf {H : Heap} : nU H H := ⟨Nat.le_refl _, fun _ _ => rfl⟩
theorem nU.grew {H0 H H1 : Heap} (h : nU H0 H) (z : H1.size = H.size + 1) (o : ∀ x : Nat, x < H.size → H1[x]? = H[x]?) : nU H0 H1 := ⟨Nat.le_trans h.1 (by omega), fun x hx => (o x (Nat.lt_of_lt_of_le hx h.1)).trans (h.2 x hx)⟩
theorem nU.put {H0 H H1 : Heap} {a : Nat} (h : nU H0 H) (z : H1.size = H.size) (o : ∀ x : Nat, x ≠ a → H1[x]? = H[x]?) (ha : H0.size ≤ a) : nU H0 H1 := ⟨by rw [z]; exact h.1, fun x hx => (o x (by omega)).trans (h.2 x hx)⟩
theorem nU.call {H0 H H1 : Heap} {A : Nat → Prop} (h : nU H0 H) (z : H.size ≤ H1.size) (o : ∀ x : Nat, x < H.size → ¬ A x → H1[x]? = H[x]?) (hA : ∀ x : Nat, x < H0.size → ¬ A x) : nU H0 H1 := ⟨Nat.le_trans h.1 z, fun x hx => (o x (Nat.lt_of_lt_of_le hx h.1) (hA x hx)).trans (h.2 x hx)⟩
theorem at_exti {D : va_G} {cl : List vw_C} {a n : Nat} {cA : ClassId} {f g : Nat → Int32} {H : Heap} (h : va_at D cl (a, .inl (cA, n, .inl f)) H) (e : ∀ j, j < n → f j = g j) : va_at D cl (a, .inl (cA, n, .inl g)) H := by
  have e2 : (fun j : Fin n => Value.int (f j.val)) = fun j : Fin n => Value.int (g j.val) := by funext j; rw [e j.val j.isLt]
  show H[a]? = some (vp_cell cA (n, .inl g))
  have h : H[a]? = some (vp_cell cA (n, .inl f)) := h
  rw [h, vp_cell_i, vp_cell_i]
  unfold arrV
  rw [e2]
theorem at_extq {D : va_G} {cl : List vw_C} {a n : Nat} {cA : ClassId} {f g : Nat → Option Nat} {H : Heap} (h : va_at D cl (a, .inl (cA, n, .inr (.inr (.inr (.inr f))))) H) (e : ∀ j, j < n → f j = g j) : va_at D cl (a, .inl (cA, n, .inr (.inr (.inr (.inr g))))) H := by
  have e2 : (fun j : Fin n => va_rf (f j.val)) = fun j : Fin n => va_rf (g j.val) := by funext j; rw [e j.val j.isLt]
  show H[a]? = some (vp_cell cA (n, .inr (.inr (.inr (.inr g)))))
  have h : H[a]? = some (vp_cell cA (n, .inr (.inr (.inr (.inr f))))) := h
  rw [h, vp_cell_q, vp_cell_q]
  unfold arrV
  rw [e2]
def nf : Nat → Option Nat := fun _ => none
/-- the sides of choices -/
def sd (x : VT) : Int32 := match x with | .var 1 => 0 | _ => 1
def sdv (i : Nat) : Int32 := if i = 0 then -1 else if i = 1 then 0 else 1
def wlen (c : VT) (t : Nat) : Int32 := nI (cs (.pow c t)).length
/-- the class's values; mode 0: an object at a, 1: a tree's entries from place a of a row f on, 2: an entry at a. No cell of B is among them. -/
def rq (D : va_G) (dT : Nat → ClassId) (B : Nat → Prop) (H : Heap) : VT → Nat → Nat → Nat → (Nat → Option Nat) → Prop
  | .pow c ty, md, _, a, _ => if md = 2 then ∃ k, va_at D cls (a, .inr (8, [.ref k, .null, .int (nI (eb (.pow c ty)).length)])) H ∧ ¬ B a ∧ rq D dT B H c 0 ty k nf else rq D dT B H c 0 ty a nf
  | .num z, _, t, a, _ => ∃ d, va_at D cls (a, .inr (2, [.int (nI t), .int (wlen (.num z) t), .int (if z < 0 then 1 else 0), .int (nI (nb z.natAbs)), .ref d])) H ∧ ¬ B a ∧ va_at D cls (d, .inl (dT 0, (nb z.natAbs + 15) / 16, .inl (fun k => nI (z.natAbs / 65536 ^ k % 65536)))) H ∧ ¬ B d
  | .natCast k, _, t, a, _ => ∃ x : Int64, va_at D cls (a, .inr (3, [.int (nI t), .int (wlen (.natCast k) t), .long x, .int (nI (k % 16))])) H ∧ ¬ B a ∧ x.toUInt64.toNat % 256 ^ (k % 16) = k / 16
  | .var i, _, t, a, _ => va_at D cls (a, .inr (4, [.int (nI t), .int (wlen (.var i) t), .int (sdv i), .null])) H ∧ ¬ B a
  | .sub x v, _, t, a, _ => ∃ b, va_at D cls (a, .inr (4, [.int (nI t), .int (wlen (.sub x v) t), .int (sd x), .ref b])) H ∧ ¬ B a ∧ rq D dT B H v 0 0 b nf
  | .add x y, md, t, a, _ => ∃ b c, va_at D cls (a, if md = 2 then .inr (8, [.ref b, .ref c, .int (nI (eb (.add x y)).length)]) else .inr (5, [.int (nI t), .int (wlen (.add x y) t), .ref b, .ref c])) H ∧ ¬ B a ∧ rq D dT B H x 0 0 b nf ∧ rq D dT B H y 0 0 c nf
  | .intCast n, md, t, a, _ => if md = 1 then True else va_at D cls (a, .inr (6, [.int (nI t), .int (wlen (.intCast n) t), .null, .null, .int 0])) H ∧ ¬ B a
  | .mul x y, md, t, a, f => if md = 1 then ∃ b, f a = some b ∧ rq D dT B H x 2 0 b nf ∧ rq D dT B H y 1 t (a + 1) f else ∃ b c, va_at D cls (a, .inr (6, [.int (nI t), .int (wlen (.mul x y) t), .ref b, .ref c, .int (nI (clen (.mul x y)))])) H ∧ ¬ B a ∧ rq D dT B H x 0 0 b nf ∧ rq D dT B H y 0 t c nf
  | .neg ch, _, t, a, _ => ∃ ea f, va_at D cls (a, .inr (7, [.int (nI t), .int (wlen (.neg ch) t), .ref ea])) H ∧ ¬ B a ∧ va_at D cls (ea, .inl (dT 4, clen ch, .inr (.inr (.inr (.inr f))))) H ∧ ¬ B ea ∧ rq D dT B H ch 1 t 0 f
/-- a value at an address -/
abbrev rv (D : va_G) (dT : Nat → ClassId) (B : Nat → Prop) (H : Heap) (v : VT) (a : Nat) : Prop := rq D dT B H v 0 0 a nf
section RQ
variable {D : va_G} {dT : Nat → ClassId} {B B' : Nat → Prop} {H H1 : Heap}
theorem rq_keep (h1 : ∀ q : Nat, q < H.size → ¬ B q → H1[q]? = H[q]?) (h2 : ∀ q : Nat, q < H.size → B' q → B q) : ∀ (v : VT) {md t a : Nat} {f : Nat → Option Nat}, rq D dT B H v md t a f → rq D dT B' H1 v md t a f := by
  have k1 : ∀ {q : Nat × va_E}, va_at D cls q H → ¬ B q.1 → va_at D cls q H1 := fun h n => h.kept (h1 _ h.lt n)
  have k2 : ∀ {q : Nat × va_E}, va_at D cls q H → ¬ B q.1 → ¬ B' q.1 := fun h n b => n (h2 _ h.lt b)
  intro v
  induction v with
  | num z =>
    rintro md t a f ⟨d, a1, a2, a3, a4⟩
    exact ⟨d, k1 a1 a2, k2 a1 a2, k1 a3 a4, k2 a3 a4⟩
  | natCast k =>
    rintro md t a f ⟨x, a1, a2, a3⟩
    exact ⟨x, k1 a1 a2, k2 a1 a2, a3⟩
  | intCast k =>
    intro md t a f h
    unfold rq at h ⊢
    by_cases hm : md = 1
    · rw [if_pos hm]; trivial
    · rw [if_neg hm] at h ⊢
      exact ⟨k1 h.1 h.2, k2 h.1 h.2⟩
  | var i =>
    rintro md t a f ⟨a1, a2⟩
    exact ⟨k1 a1 a2, k2 a1 a2⟩
  | neg ch ih =>
    rintro md t a f ⟨ea, g, a1, a2, a3, a4, a5⟩
    exact ⟨ea, g, k1 a1 a2, k2 a1 a2, k1 a3 a4, k2 a3 a4, ih a5⟩
  | add x y ihx ihy =>
    rintro md t a f ⟨b, c, a1, a2, a3, a4⟩
    exact ⟨b, c, k1 a1 a2, k2 a1 a2, ihx a3, ihy a4⟩
  | sub x v ihx ihv =>
    rintro md t a f ⟨b, a1, a2, a3⟩
    exact ⟨b, k1 a1 a2, k2 a1 a2, ihv a3⟩
  | mul x y ihx ihy =>
    intro md t a f h
    unfold rq at h ⊢
    by_cases hm : md = 1
    · rw [if_pos hm] at h ⊢
      obtain ⟨b, a1, a2, a3⟩ := h
      exact ⟨b, a1, ihx a2, ihy a3⟩
    · rw [if_neg hm] at h ⊢
      obtain ⟨b, c, a1, a2, a3, a4⟩ := h
      exact ⟨b, c, k1 a1 a2, k2 a1 a2, ihx a3, ihy a4⟩
  | pow c ty ih =>
    intro md t a f h
    unfold rq at h ⊢
    by_cases hm : md = 2
    · rw [if_pos hm] at h ⊢
      obtain ⟨k, a1, a2, a3⟩ := h
      exact ⟨k, k1 a1 a2, k2 a1 a2, ih a3⟩
    · rw [if_neg hm] at h ⊢
      exact ih h
theorem rq_up (hN : ∀ x : Nat, x < H.size → H1[x]? = H[x]?) {v : VT} {md t a : Nat} {f : Nat → Option Nat} (h : rq D dT B H v md t a f) : rq D dT B H1 v md t a f := rq_keep (fun q hq _ => hN q hq) (fun _ _ h => h) v h
-- the forms
theorem rv_num {z : Int} {t a : Nat} : rv D dT B H (.pow (.num z) t) a ↔ ∃ d, va_at D cls (a, .inr (2, [.int (nI t), .int (wlen (.num z) t), .int (if z < 0 then 1 else 0), .int (nI (nb z.natAbs)), .ref d])) H ∧ ¬ B a ∧ va_at D cls (d, .inl (dT 0, (nb z.natAbs + 15) / 16, .inl (fun k => nI (z.natAbs / 65536 ^ k % 65536)))) H ∧ ¬ B d := Iff.rfl
theorem rv_row {k t a : Nat} : rv D dT B H (.pow (.natCast k) t) a ↔ ∃ x : Int64, va_at D cls (a, .inr (3, [.int (nI t), .int (wlen (.natCast k) t), .long x, .int (nI (k % 16))])) H ∧ ¬ B a ∧ x.toUInt64.toNat % 256 ^ (k % 16) = k / 16 := Iff.rfl
theorem rv_var {i t a : Nat} : rv D dT B H (.pow (.var i) t) a ↔ va_at D cls (a, .inr (4, [.int (nI t), .int (wlen (.var i) t), .int (sdv i), .null])) H ∧ ¬ B a := Iff.rfl
theorem rv_sub {x v : VT} {t a : Nat} : rv D dT B H (.pow (.sub x v) t) a ↔ ∃ b, va_at D cls (a, .inr (4, [.int (nI t), .int (wlen (.sub x v) t), .int (sd x), .ref b])) H ∧ ¬ B a ∧ rv D dT B H v b := Iff.rfl
theorem rv_add {x y : VT} {t a : Nat} : rv D dT B H (.pow (.add x y) t) a ↔ ∃ b c, va_at D cls (a, .inr (5, [.int (nI t), .int (wlen (.add x y) t), .ref b, .ref c])) H ∧ ¬ B a ∧ rv D dT B H x b ∧ rv D dT B H y c := Iff.rfl
theorem rv_nil {n : Int} {t a : Nat} : rv D dT B H (.pow (.intCast n) t) a ↔ va_at D cls (a, .inr (6, [.int (nI t), .int (wlen (.intCast n) t), .null, .null, .int 0])) H ∧ ¬ B a := Iff.rfl
theorem rv_mul {x y : VT} {t a : Nat} : rv D dT B H (.pow (.mul x y) t) a ↔ ∃ b c, va_at D cls (a, .inr (6, [.int (nI t), .int (wlen (.mul x y) t), .ref b, .ref c, .int (nI (clen (.mul x y)))])) H ∧ ¬ B a ∧ rv D dT B H x b ∧ rv D dT B H (.pow y t) c := Iff.rfl
theorem rv_neg {ch : VT} {t a : Nat} : rv D dT B H (.pow (.neg ch) t) a ↔ ∃ ea f, va_at D cls (a, .inr (7, [.int (nI t), .int (wlen (.neg ch) t), .ref ea])) H ∧ ¬ B a ∧ va_at D cls (ea, .inl (dT 4, clen ch, .inr (.inr (.inr (.inr f))))) H ∧ ¬ B ea ∧ rq D dT B H ch 1 t 0 f := Iff.rfl
theorem re_pow {c : VT} {ty a t : Nat} {f : Nat → Option Nat} : rq D dT B H (.pow c ty) 2 t a f ↔ ∃ k, va_at D cls (a, .inr (8, [.ref k, .null, .int (nI (eb (.pow c ty)).length)])) H ∧ ¬ B a ∧ rv D dT B H (.pow c ty) k := Iff.rfl
theorem re_add {x y : VT} {a t : Nat} {f : Nat → Option Nat} : rq D dT B H (.add x y) 2 t a f ↔ ∃ b c, va_at D cls (a, .inr (8, [.ref b, .ref c, .int (nI (eb (.add x y)).length)])) H ∧ ¬ B a ∧ rv D dT B H x b ∧ rv D dT B H y c := Iff.rfl
theorem rc_mul {x y : VT} {a t : Nat} {f : Nat → Option Nat} : rq D dT B H (.mul x y) 1 t a f ↔ ∃ b, f a = some b ∧ rq D dT B H x 2 0 b nf ∧ rq D dT B H y 1 t (a + 1) f := Iff.rfl
theorem rc_nil {n : Int} {a t : Nat} {f : Nat → Option Nat} : rq D dT B H (.intCast n) 1 t a f := trivial
/-- a value's type and length as its object has them -/
def vh (D : va_G) (a : Nat) (t n : Int32) (H : Heap) : Prop := ∃ ci fs, 2 ≤ ci ∧ ci ≤ 7 ∧ va_at D cls (a, .inr (ci, .int t :: .int n :: fs)) H
theorem rv_hd {tb : Nat → TR} {v : VT} {t a : Nat} (hw : wty tb v 0 t) (h : rv D dT B H v a) : vh D a (nI t) (nI (cs v).length) H ∧ ¬ B a := by
  obtain ⟨c, rfl, hc⟩ := wty_pow hw
  cases c with
  | num z => obtain ⟨d, a1, a2, -⟩ := h; exact ⟨⟨_, _, by decide, by decide, a1⟩, a2⟩
  | natCast k => obtain ⟨d, a1, a2, -⟩ := h; exact ⟨⟨_, _, by decide, by decide, a1⟩, a2⟩
  | intCast k => obtain ⟨a1, a2⟩ := rv_nil.mp h; exact ⟨⟨_, _, by decide, by decide, a1⟩, a2⟩
  | var i => obtain ⟨a1, a2⟩ := h; exact ⟨⟨_, _, by decide, by decide, a1⟩, a2⟩
  | neg ch => obtain ⟨ea, f, a1, a2, -⟩ := h; exact ⟨⟨_, _, by decide, by decide, a1⟩, a2⟩
  | add x y => obtain ⟨b, c, a1, a2, -⟩ := rv_add.mp h; exact ⟨⟨_, _, by decide, by decide, a1⟩, a2⟩
  | sub x v => obtain ⟨b, a1, a2, -⟩ := h; exact ⟨⟨_, _, by decide, by decide, a1⟩, a2⟩
  | mul x y => obtain ⟨b, c, a1, a2, -⟩ := rv_mul.mp h; exact ⟨⟨_, _, by decide, by decide, a1⟩, a2⟩
  | pow c ty => exact absurd hc.1 (by decide)
theorem vh.lt {a : Nat} {t n : Int32} (h : vh D a t n H) : a < H.size := by obtain ⟨ci, fs, -, -, h⟩ := h; exact h.lt
theorem vh.grew {a : Nat} {t n : Int32} (h : vh D a t n H) (o : ∀ x : Nat, x < H.size → H1[x]? = H[x]?) : vh D a t n H1 := by
  obtain ⟨ci, fs, h1, h2, h⟩ := h
  exact ⟨ci, fs, h1, h2, h.grew o⟩
theorem vh.kept {a : Nat} {t n : Int32} (h : vh D a t n H) (hq : H1[a]? = H[a]?) : vh D a t n H1 := by
  obtain ⟨ci, fs, h1, h2, h⟩ := h
  exact ⟨ci, fs, h1, h2, va_at.kept h hq⟩
theorem vh.off {a q : Nat} {t n : Int32} (h : vh D a t n H) (o : ∀ x : Nat, x ≠ q → H1[x]? = H[x]?) (hn : a ≠ q) : vh D a t n H1 := by
  obtain ⟨ci, fs, h1, h2, h⟩ := h
  exact ⟨ci, fs, h1, h2, h.off o hn⟩
/-- entries by their places -/
theorem rc_nth {ch : VT} {f : Nat → Option Nat} : ∀ {t i k : Nat} {e : VT}, rq D dT B H ch 1 t i f → nthE ch k = some e → ∃ b, f (i + k) = some b ∧ rq D dT B H e 2 0 b nf := by
  induction ch with
  | mul x y ihx ihy =>
    intro t i k e h hk
    obtain ⟨b, a1, a2, a3⟩ := rc_mul.mp h
    cases k with
    | zero => cases hk; exact ⟨b, a1, a2⟩
    | succ k =>
      obtain ⟨c, c1, c2⟩ := ihy (k := k) a3 hk
      exact ⟨c, by rw [← c1]; congr 1; omega, c2⟩
  | _ => intro t i k e h hk; cases k <;> cases hk
theorem rc_of {tb : Nat → TR} {t0 : Nat} {f : Nat → Option Nat} : ∀ {ch : VT} {t i : Nat}, wty tb ch (cmd tb t0) t0 → (∀ k e, nthE ch k = some e → ∃ b, f (i + k) = some b ∧ rq D dT B H e 2 0 b nf) → rq D dT B H ch 1 t i f := by
  intro ch
  induction ch with
  | mul x y ihx ihy =>
    intro t i hw h
    obtain ⟨q, hq⟩ | ⟨e', r', he, h1, h2⟩ := ch_cases hw
    · cases hq
    · cases he
      obtain ⟨b, b1, b2⟩ := h 0 x rfl
      refine rc_mul.mpr ⟨b, b1, b2, ihy h2 (fun k e hk => ?_)⟩
      obtain ⟨c, c1, c2⟩ := h (k + 1) e hk
      exact ⟨c, by rw [← c1]; congr 1; omega, c2⟩
  | intCast n => intro t i _ _; exact rc_nil
  | _ =>
    intro t i hw h
    obtain ⟨q, hq⟩ | ⟨e', r', he, h1, h2⟩ := ch_cases hw
    · cases hq
    · cases he
/-- an entry's object -/
theorem re_at {tb : Nat → TR} {t b : Nat} {e : VT} {f : Nat → Option Nat} (hw : wen tb t e) (h : rq D dT B H e 2 0 b f) : ∃ ka vv, va_at D cls (b, .inr (8, [.ref ka, vv, .int (nI (eb e).length)])) H ∧ ¬ B b ∧ wty tb (kyOf e) 0 (lt_ tb t) ∧ rv D dT B H (kyOf e) ka ∧ ((vv = .null ∧ valOf e = none) ∨ ∃ c x, vv = .ref c ∧ valOf e = some x ∧ wty tb x 0 (rt_ tb t) ∧ rv D dT B H x c) := by
  rcases hw with ⟨-, hw⟩ | ⟨-, k, v, rfl, hw1, hw2⟩
  · obtain ⟨c, rfl, hc⟩ := wty_pow hw
    obtain ⟨k, a1, a2, a3⟩ := re_pow.mp h
    exact ⟨k, .null, a1, a2, hw, a3, Or.inl ⟨rfl, rfl⟩⟩
  · obtain ⟨k', c', a1, a2, a3, a4⟩ := re_add.mp h
    exact ⟨k', .ref c', a1, a2, hw1, a3, Or.inr ⟨c', v, rfl, rfl, hw2, a4⟩⟩
end RQ
/-- a type's fields -/
def tyF (r : TR) : List Value := [.int (nI (tW r)), .int (oI (tL r)), .int (oI (tR r)), .int (nI (tP r)), .int (nI (tK r))]
/-- the class's registers -/
def cR (D : va_G) (dT : Nat → ClassId) (B : Nat → Prop) (rg : Nat) (RV : Nat → Option VT) (H : Heap) : Prop :=
  ∃ f, va_at D cls (rg, .inl (dT 3, 16, .inr (.inr (.inr (.inr f))))) H ∧ ∀ j, j < 16 → (RV j = none → f j = none) ∧ ∀ v, RV j = some v → ∃ a, f j = some a ∧ rv D dT B H v a
/-- the class's types: the list, its row, the types -/
def cT (D : va_G) (dT : Nat → ClassId) (B : Nat → Prop) (li ed : Nat) (tb : Nat → TR) (tc : Nat) (H : Heap) : Prop :=
  ∃ mc cap g, va_at D cls (li, .inr (9, [.int mc, .ref ed, .int (nI tc)])) H ∧ va_at D cls (ed, .inl (dT 2, cap, .inr (.inr (.inr (.inr g))))) H ∧ tc ≤ cap ∧ 0 < cap ∧ cap ≤ 3000 ∧ ∀ t, t < tc → ∃ a, g t = some a ∧ ¬ B a ∧ va_at D cls (a, .inr (1, tyF (tb t))) H
/-- the class as the law holds it -/
def cI (D : va_G) (dT : Nat → ClassId) (B : Nat → Prop) (vv rg li ed : Nat) (tb : Nat → TR) (tc : Nat) (RV : Nat → Option VT) (H : Heap) : Prop :=
  ((∀ q, B q → q < H.size) ∧ B rg ∧ B li ∧ B ed ∧ ¬ B vv ∧ rg ≠ li ∧ rg ≠ ed ∧ li ≠ ed) ∧ va_at D cls (vv, .inr (0, [.ref li, .ref rg])) H ∧ cR D dT B rg RV H ∧ cT D dT B li ed tb tc H
/-- the registers' values are well typed and not too long -/
def vOK (tb : Nat → TR) (tc : Nat) (RV : Nat → Option VT) : Prop := tOK tb tc ∧ ∀ j, j < 16 → ∀ v, RV j = some v → vty v < tc ∧ wty tb v 0 (vty v) ∧ (cs v).length ≤ 160
section CI
variable {D : va_G} {dT : Nat → ClassId} {B : Nat → Prop} {H H1 : Heap} {vv rg li ed : Nat} {tb : Nat → TR} {tc : Nat} {RV : Nat → Option VT}
theorem cR.up (h : cR D dT B rg RV H) (hN : ∀ x : Nat, x < H.size → H1[x]? = H[x]?) : cR D dT B rg RV H1 := by
  obtain ⟨f, h1, h2⟩ := h
  refine ⟨f, h1.grew hN, fun j hj => ⟨(h2 j hj).1, fun v hv => ?_⟩⟩
  obtain ⟨a, a1, a2⟩ := (h2 j hj).2 v hv
  exact ⟨a, a1, rq_up hN a2⟩
theorem cT.up (h : cT D dT B li ed tb tc H) (hN : ∀ x : Nat, x < H.size → H1[x]? = H[x]?) : cT D dT B li ed tb tc H1 := by
  obtain ⟨mc, cap, g, h1, h2, h3, h4, h5, h6⟩ := h
  refine ⟨mc, cap, g, h1.grew hN, h2.grew hN, h3, h4, h5, fun t ht => ?_⟩
  obtain ⟨a, a1, a2, a3⟩ := h6 t ht
  exact ⟨a, a1, a2, a3.grew hN⟩
theorem cI.up (h : cI D dT B vv rg li ed tb tc RV H) (hN : nU H H1) : cI D dT B vv rg li ed tb tc RV H1 := ⟨⟨fun q hq => Nat.lt_of_lt_of_le (h.1.1 q hq) hN.1, h.1.2⟩, h.2.1.grew hN.2, h.2.2.1.up hN.2, h.2.2.2.up hN.2⟩
theorem vOK_get (h : vOK tb tc RV) {r : Int32} {v : VT} (hv : rgs RV r = some v) : vty v < tc ∧ wty tb v 0 (vty v) ∧ (cs v).length ≤ 160 := by
  obtain ⟨j, hj, -, hj2⟩ := rgs_some hv
  exact h.2 j hj v hj2
/-- a write to the registers -/
theorem cI.put (h : cI D dT B vv rg li ed tb tc RV H) (z : H1.size = H.size) (o : ∀ q : Nat, q ≠ rg → H1[q]? = H[q]?) {j : Nat} {f : Nat → Option Nat} {o1 : Option VT} (hf : va_at D cls (rg, .inl (dT 3, 16, .inr (.inr (.inr (.inr f))))) H1)
    (hj : ∀ i, i < 16 → (updR RV j o1 i = none → f i = none) ∧ ∀ v, updR RV j o1 i = some v → ∃ a, f i = some a ∧ rv D dT B H v a) : cI D dT B vv rg li ed tb tc (updR RV j o1) H1 := by
  obtain ⟨⟨b0, b1, b2, b3, b4, b5, b6, b7⟩, h1, h2, mc, cap, g, c1, c2, c3, c4, c5, c6⟩ := h
  have hk : ∀ q : Nat, q < H.size → ¬ B q → H1[q]? = H[q]? := fun q _ hq => o q (fun e => hq (e ▸ b1))
  refine ⟨⟨fun q hq => by rw [z]; exact b0 q hq, b1, b2, b3, b4, b5, b6, b7⟩, h1.off o (fun e => b4 (show B vv from (show vv = rg from e) ▸ b1)), ⟨f, hf, fun i hi => ⟨(hj i hi).1, fun v hv => ?_⟩⟩, mc, cap, g, c1.off o (Ne.symm b5), c2.off o (Ne.symm b6), c3, c4, c5, fun t ht => ?_⟩
  · obtain ⟨a, a1, a2⟩ := (hj i hi).2 v hv
    exact ⟨a, a1, rq_keep hk (fun _ _ h => h) v a2⟩
  · obtain ⟨a, a1, a2, a3⟩ := c6 t ht
    exact ⟨a, a1, a2, a3.kept (hk _ a3.lt a2)⟩
end CI
section VG
variable {p : Program} {l : Launch} {e : Env} {R : Room} {s : State} {m : MethodId} {args : Array Value} {below : List Frame} {meth : Method} {c : Code} {H : Heap} {locs : List Loc} {cells slots : Nat} {Q : State → Prop}
variable {cc : ByteArray} {pc : Nat} {ls : Array Slot} {rest : List Value} {D : va_G} {A : Nat → Prop} {a : Nat} {dT : Nat → ClassId} {H0 : Heap}
theorem ci_six {ci : Nat} (h1 : 2 ≤ ci) (h2 : ci ≤ 7) : ci = 2 ∨ ci = 3 ∨ ci = 4 ∨ ci = 5 ∨ ci = 6 ∨ ci = 7 := by omega
theorem z_vty (hx : p.tables.exec = Jvm.exec) (hb : c.code = cc) (ht : ∀ w ∈ gt, w.before args s = true) {own : String} (hown : s.vm.findClass own = some m.cls) (hK : z_K D dT s) {index : Nat} {t n : Int32} (h : vh D a t n H) (hlink : (Cond.fieldLink own index "ValueTrees$Value" "type" "I").before args s = true) (hdg : decode cc pc = .ok (.getfield index, 3))
    (kk : W p l e R s m args below meth c H locs cells slots Q (F0 m (pc + 3) ls (.int t :: rest))) : W p l e R s m args below meth c H locs cells slots Q (F0 m pc ls (.ref a :: rest)) := by
  obtain ⟨ci, fs, h1, h2, ha⟩ := h
  rcases ci_six h1 h2 with rfl | rfl | rfl | rfl | rfl | rfl
  · exact va_get (D := D) (ci := 2) (v := .int t) (C := "ValueTrees$Whole") (T := T_Whole) (N := 5) hx hb ht in_Whole hown hK.1 (z_1 ha) 0 rfl rfl 0 (by decide) hlink (fun _ h9 => h9) rfl hdg kk
  · exact va_get (D := D) (ci := 3) (v := .int t) (C := "ValueTrees$Row") (T := T_Row) (N := 4) hx hb ht in_Row hown hK.1 (z_1 ha) 0 rfl rfl 0 (by decide) hlink (fun _ h9 => h9) rfl hdg kk
  · exact va_get (D := D) (ci := 4) (v := .int t) (C := "ValueTrees$Choice") (T := T_Choice) (N := 4) hx hb ht in_Choice hown hK.1 (z_1 ha) 0 rfl rfl 0 (by decide) hlink (fun _ h9 => h9) rfl hdg kk
  · exact va_get (D := D) (ci := 5) (v := .int t) (C := "ValueTrees$Couple") (T := T_Couple) (N := 4) hx hb ht in_Couple hown hK.1 (z_1 ha) 0 rfl rfl 0 (by decide) hlink (fun _ h9 => h9) rfl hdg kk
  · exact va_get (D := D) (ci := 6) (v := .int t) (C := "ValueTrees$Chain") (T := T_Chain) (N := 5) hx hb ht in_Chain hown hK.1 (z_1 ha) 0 rfl rfl 0 (by decide) hlink (fun _ h9 => h9) rfl hdg kk
  · exact va_get (D := D) (ci := 7) (v := .int t) (C := "ValueTrees$Tree") (T := T_Tree) (N := 3) hx hb ht in_Tree hown hK.1 (z_1 ha) 0 rfl rfl 0 (by decide) hlink (fun _ h9 => h9) rfl hdg kk
theorem z_vlen (hx : p.tables.exec = Jvm.exec) (hb : c.code = cc) (ht : ∀ w ∈ gt, w.before args s = true) {own : String} (hown : s.vm.findClass own = some m.cls) (hK : z_K D dT s) {index : Nat} {t n : Int32} (h : vh D a t n H) (hlink : (Cond.fieldLink own index "ValueTrees$Value" "length" "I").before args s = true) (hdg : decode cc pc = .ok (.getfield index, 3))
    (kk : W p l e R s m args below meth c H locs cells slots Q (F0 m (pc + 3) ls (.int n :: rest))) : W p l e R s m args below meth c H locs cells slots Q (F0 m pc ls (.ref a :: rest)) := by
  obtain ⟨ci, fs, h1, h2, ha⟩ := h
  rcases ci_six h1 h2 with rfl | rfl | rfl | rfl | rfl | rfl
  · exact va_get (D := D) (ci := 2) (v := .int n) (C := "ValueTrees$Whole") (T := T_Whole) (N := 5) hx hb ht in_Whole hown hK.1 (z_1 ha) 0 rfl rfl 1 (by decide) hlink (fun _ h9 => h9) rfl hdg kk
  · exact va_get (D := D) (ci := 3) (v := .int n) (C := "ValueTrees$Row") (T := T_Row) (N := 4) hx hb ht in_Row hown hK.1 (z_1 ha) 0 rfl rfl 1 (by decide) hlink (fun _ h9 => h9) rfl hdg kk
  · exact va_get (D := D) (ci := 4) (v := .int n) (C := "ValueTrees$Choice") (T := T_Choice) (N := 4) hx hb ht in_Choice hown hK.1 (z_1 ha) 0 rfl rfl 1 (by decide) hlink (fun _ h9 => h9) rfl hdg kk
  · exact va_get (D := D) (ci := 5) (v := .int n) (C := "ValueTrees$Couple") (T := T_Couple) (N := 4) hx hb ht in_Couple hown hK.1 (z_1 ha) 0 rfl rfl 1 (by decide) hlink (fun _ h9 => h9) rfl hdg kk
  · exact va_get (D := D) (ci := 6) (v := .int n) (C := "ValueTrees$Chain") (T := T_Chain) (N := 5) hx hb ht in_Chain hown hK.1 (z_1 ha) 0 rfl rfl 1 (by decide) hlink (fun _ h9 => h9) rfl hdg kk
  · exact va_get (D := D) (ci := 7) (v := .int n) (C := "ValueTrees$Tree") (T := T_Tree) (N := 3) hx hb ht in_Tree hown hK.1 (z_1 ha) 0 rfl rfl 1 (by decide) hlink (fun _ h9 => h9) rfl hdg kk
theorem vh_any {t n : Int32} (hK : z_K D dT s) (h : vh D a t n H) : va_Any "ValueTrees$Value" s H a := by
  obtain ⟨ci, fs, h1, h2, ha⟩ := h
  rcases ci_six h1 h2 with rfl | rfl | rfl | rfl | rfl | rfl
  · exact z_any hK ha rfl (C := "ValueTrees$Whole") (List.mem_of_getElem? (i := 0) rfl)
  · exact z_any hK ha rfl (C := "ValueTrees$Row") (List.mem_of_getElem? (i := 1) rfl)
  · exact z_any hK ha rfl (C := "ValueTrees$Choice") (List.mem_of_getElem? (i := 2) rfl)
  · exact z_any hK ha rfl (C := "ValueTrees$Couple") (List.mem_of_getElem? (i := 3) rfl)
  · exact z_any hK ha rfl (C := "ValueTrees$Chain") (List.mem_of_getElem? (i := 4) rfl)
  · exact z_any hK ha rfl (C := "ValueTrees$Tree") (List.mem_of_getElem? (i := 5) rfl)
/-- the two fields of a value, in its constructor -/
theorem z_vput (hx : p.tables.exec = Jvm.exec) (hb : c.code = cc) (ht : ∀ w ∈ gt, w.before args s = true) (hown : s.vm.findClass "ValueTrees$Value" = some m.cls) (hin : meth.name = "<init>") (hK : z_K D dT s) (hS : va_S A H0 H locs) (hA : A a) {index ci : Nat} {x y v : Int32} {fs : List Value} (h1 : 2 ≤ ci) (h2 : ci ≤ 7) (ha : va_at D cls (a, .inr (ci, .int x :: .int y :: fs)) H) (k : Nat) (hk : k < 2) (hlink : (Cond.fieldLink "ValueTrees$Value" index "ValueTrees$Value" (if k = 0 then "type" else "length") "I").before args s = true) (hdg : decode cc pc = .ok (.putfield index, 3))
    (kk : ∀ (H1 : Heap) (locs1 : List Loc), va_at D cls (a, .inr (ci, (Value.int x :: .int y :: fs).set k (.int v))) H1 → H1.size = H.size → (∀ q : Nat, q ≠ a → H1[q]? = H[q]?) → va_S A H0 H1 locs1 → W p l e R s m args below meth c H1 locs1 cells slots Q (F0 m (pc + 3) ls rest)) : W p l e R s m args below meth c H locs cells slots Q (F0 m pc ls (.int v :: .ref a :: rest)) := by
  have hk2 : k = 0 ∨ k = 1 := by omega
  rcases ci_six h1 h2 with rfl | rfl | rfl | rfl | rfl | rfl
  · rcases hk2 with rfl | rfl
    · exact z_putF (C := "ValueTrees$Whole") (T := T_Whole) (N := 5) hx hb ht in_Whole ty_Whole tyk_Whole nm_Whole hown hK hS hA ha rfl 0 (by decide) hlink (fun _ h9 => h9) rfl hin rfl rfl rfl (by simp) hdg kk
    · exact z_putF (C := "ValueTrees$Whole") (T := T_Whole) (N := 5) hx hb ht in_Whole ty_Whole tyk_Whole nm_Whole hown hK hS hA ha rfl 1 (by decide) hlink (fun _ h9 => h9) rfl hin rfl rfl rfl (by simp) hdg kk
  · rcases hk2 with rfl | rfl
    · exact z_putF (C := "ValueTrees$Row") (T := T_Row) (N := 4) hx hb ht in_Row ty_Row tyk_Row nm_Row hown hK hS hA ha rfl 0 (by decide) hlink (fun _ h9 => h9) rfl hin rfl rfl rfl (by simp) hdg kk
    · exact z_putF (C := "ValueTrees$Row") (T := T_Row) (N := 4) hx hb ht in_Row ty_Row tyk_Row nm_Row hown hK hS hA ha rfl 1 (by decide) hlink (fun _ h9 => h9) rfl hin rfl rfl rfl (by simp) hdg kk
  · rcases hk2 with rfl | rfl
    · exact z_putF (C := "ValueTrees$Choice") (T := T_Choice) (N := 4) hx hb ht in_Choice ty_Choice tyk_Choice nm_Choice hown hK hS hA ha rfl 0 (by decide) hlink (fun _ h9 => h9) rfl hin rfl rfl rfl (by simp) hdg kk
    · exact z_putF (C := "ValueTrees$Choice") (T := T_Choice) (N := 4) hx hb ht in_Choice ty_Choice tyk_Choice nm_Choice hown hK hS hA ha rfl 1 (by decide) hlink (fun _ h9 => h9) rfl hin rfl rfl rfl (by simp) hdg kk
  · rcases hk2 with rfl | rfl
    · exact z_putF (C := "ValueTrees$Couple") (T := T_Couple) (N := 4) hx hb ht in_Couple ty_Couple tyk_Couple nm_Couple hown hK hS hA ha rfl 0 (by decide) hlink (fun _ h9 => h9) rfl hin rfl rfl rfl (by simp) hdg kk
    · exact z_putF (C := "ValueTrees$Couple") (T := T_Couple) (N := 4) hx hb ht in_Couple ty_Couple tyk_Couple nm_Couple hown hK hS hA ha rfl 1 (by decide) hlink (fun _ h9 => h9) rfl hin rfl rfl rfl (by simp) hdg kk
  · rcases hk2 with rfl | rfl
    · exact z_putF (C := "ValueTrees$Chain") (T := T_Chain) (N := 5) hx hb ht in_Chain ty_Chain tyk_Chain nm_Chain hown hK hS hA ha rfl 0 (by decide) hlink (fun _ h9 => h9) rfl hin rfl rfl rfl (by simp) hdg kk
    · exact z_putF (C := "ValueTrees$Chain") (T := T_Chain) (N := 5) hx hb ht in_Chain ty_Chain tyk_Chain nm_Chain hown hK hS hA ha rfl 1 (by decide) hlink (fun _ h9 => h9) rfl hin rfl rfl rfl (by simp) hdg kk
  · rcases hk2 with rfl | rfl
    · exact z_putF (C := "ValueTrees$Tree") (T := T_Tree) (N := 3) hx hb ht in_Tree ty_Tree tyk_Tree nm_Tree hown hK hS hA ha rfl 0 (by decide) hlink (fun _ h9 => h9) rfl hin rfl rfl rfl (by simp) hdg kk
    · exact z_putF (C := "ValueTrees$Tree") (T := T_Tree) (N := 3) hx hb ht in_Tree ty_Tree tyk_Tree nm_Tree hown hK hS hA ha rfl 1 (by decide) hlink (fun _ h9 => h9) rfl hin rfl rfl rfl (by simp) hdg kk
end VG
