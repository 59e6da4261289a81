/-- values as trees: a typed value is .pow core type; the cores: .num a number, .natCast a row of bytes (count + 16 * bytes), .var 0 unit, .var 1 false or none, .var 2 true, .sub (.var 1|2|3) left, right, some; .add a pair; .intCast an empty chain, .mul a chain (a list's own; under .neg a set's or map's, an entry being .add key value) -/
abbrev VT : Type := Lean.Grind.CommRing.Expr
def nb (n : Nat) : Nat := if n = 0 then 0 else n.log2 + 1
def size4 (n : Nat) : List Nat := [n / 16777216 % 256, n / 65536 % 256, n / 256 % 256, n % 256]
/-- byte j of a number's form, of size n, behind the first -/
def nbyte (n j : Nat) : Nat := n / 2 ^ (6 + 7 * j) % 128 + (if 13 + 7 * j < nb n then 128 else 0)
def nser (z : Int) : List Nat := (z.natAbs % 64 + (if z < 0 then 64 else 0) + (if 6 < nb z.natAbs then 128 else 0)) :: (List.range (nb z.natAbs / 7)).map (nbyte z.natAbs)
def rser (c : Nat) : List Nat := (List.range (c % 16)).map (fun j => c / 16 / 256 ^ j % 256)
def tg (a : VT) : Nat := match a with | .var 1 => 5 | .var 2 => 8 | _ => 9
def en (a : VT) : List Nat := match a with | .add _ _ => [7, 4] | _ => []
def vtag (i ty : Nat) : Nat := if i = 0 then 11 else if i = 1 then (if ty = 1 then 3 else 6) else 10
def hdr (c : VT) (ty : Nat) (b : List Nat) : List Nat := match c with
  | .num _ => [0]
  | .natCast k => (if ty = 6 then 10 else 1) :: size4 (k % 16)
  | .var i => [3, vtag i ty]
  | .sub a _ => [5, tg a]
  | .add _ _ => [7, 7]
  | _ => 2 :: size4 b.length
/-- the bytes of a form -/
def cs : VT → List Nat
  | .num z => nser z
  | .natCast c => rser c
  | .intCast _ => []
  | .var _ => []
  | .neg a => cs a
  | .add a b => cs a ++ cs b
  | .sub _ b => cs b
  | .mul a b => en a ++ (cs a ++ cs b)
  | .pow c ty => hdr c ty (cs c) ++ cs c
/-- the left and right type of a type -/
def lt_ (tb : Nat → TR) (t : Nat) : Nat := (tL (tb t)).getD 0
def rt_ (tb : Nat → TR) (t : Nat) : Nat := (tR (tb t)).getD 0
/-- well typed: mode 0 a value of type t, 1 a core of type t, 2 a set's chain, 3 a map's chain, 4 a map's entry -/
def wty (tb : Nat → TR) : VT → Nat → Nat → Prop
  | .pow c ty, md, t => md = 0 ∧ ty = t ∧ wty tb c 1 t
  | .num z, md, t => md = 1 ∧ (tW (tb t) = 2 ∨ tW (tb t) = 3 ∨ tW (tb t) = 4 ∨ tW (tb t) = 8) ∧ z.natAbs < 2 ^ 1024 ∧ ((tW (tb t) = 3 ∨ tW (tb t) = 4) → 0 ≤ z) ∧ (tW (tb t) = 4 → z.natAbs < 2 ^ 63)
  | .natCast c, md, t => md = 1 ∧ (tW (tb t) = 5 ∨ tW (tb t) = 6) ∧ c % 16 ≤ 8 ∧ c / 16 < 256 ^ (c % 16)
  | .var i, md, t => md = 1 ∧ ((tW (tb t) = 0 ∧ i = 0) ∨ (tW (tb t) = 1 ∧ (i = 1 ∨ i = 2)) ∨ (tW (tb t) = 10 ∧ i = 1))
  | .sub a v, md, t => md = 1 ∧ ((tW (tb t) = 10 ∧ a = .var 3 ∧ wty tb v 0 (lt_ tb t)) ∨ (tW (tb t) = 14 ∧ a = .var 1 ∧ wty tb v 0 (lt_ tb t)) ∨ (tW (tb t) = 14 ∧ a = .var 2 ∧ wty tb v 0 (rt_ tb t)))
  | .add a b, md, t => ((md = 1 ∧ tW (tb t) = 18) ∨ md = 4) ∧ wty tb a 0 (lt_ tb t) ∧ wty tb b 0 (rt_ tb t)
  | .intCast _, md, t => (md = 1 ∧ tW (tb t) = 11) ∨ md = 2 ∨ md = 3
  | .mul a b, md, t => (md = 1 ∧ tW (tb t) = 11 ∧ wty tb a 0 (lt_ tb t) ∧ wty tb b 1 t) ∨ (md = 2 ∧ wty tb a 0 (lt_ tb t) ∧ wty tb b 2 t) ∨ (md = 3 ∧ wty tb a 4 t ∧ wty tb b 3 t)
  | .neg ch, md, t => md = 1 ∧ ((tW (tb t) = 12 ∧ wty tb ch 2 t) ∨ ((tW (tb t) = 15 ∨ tW (tb t) = 16) ∧ wty tb ch 3 t))
/-- bytes stand at a place -/
def fAt (F : Nat → Nat) (a : Nat) (bs : List Nat) : Prop := ∀ k, k < bs.length → F (a + k) = bs.getD k 0
theorem gD_l {x y : List Nat} {k : Nat} (h : k < x.length) : (x ++ y).getD k 0 = x.getD k 0 := by rw [List.getD_eq_getElem?_getD, List.getD_eq_getElem?_getD, List.getElem?_append_left h]
theorem gD_r {x y : List Nat} {k : Nat} (h : x.length ≤ k) : (x ++ y).getD k 0 = y.getD (k - x.length) 0 := by rw [List.getD_eq_getElem?_getD, List.getD_eq_getElem?_getD, List.getElem?_append_right h]
theorem fAt_app {F : Nat → Nat} {a : Nat} {x y : List Nat} : fAt F a (x ++ y) ↔ fAt F a x ∧ fAt F (a + x.length) y := by
  constructor
  · intro h
    refine ⟨fun k hk => ?_, fun k hk => ?_⟩
    · rw [h k (by rw [List.length_append]; omega), gD_l hk]
    · rw [Nat.add_assoc, h (x.length + k) (by rw [List.length_append]; omega), gD_r (by omega), Nat.add_sub_cancel_left]
  · rintro ⟨h1, h2⟩ k hk
    rw [List.length_append] at hk
    rcases Nat.lt_or_ge k x.length with q | q
    · rw [h1 k q, gD_l q]
    · have e : a + k = a + x.length + (k - x.length) := by omega
      rw [e, h2 _ (by omega), gD_r q]
theorem fAt_cons {F : Nat → Nat} {a b : Nat} {x : List Nat} : fAt F a (b :: x) ↔ F a = b ∧ fAt F (a + 1) x := by
  have h := fAt_app (F := F) (a := a) (x := [b]) (y := x)
  rw [List.singleton_append] at h
  rw [h]
  constructor
  · rintro ⟨h1, h2⟩
    exact ⟨h1 0 (by simp), h2⟩
  · rintro ⟨h1, h2⟩
    refine ⟨fun k hk => ?_, h2⟩
    have : k = 0 := by simp at hk; omega
    subst this
    exact h1
theorem nb_lt {n k : Nat} : nb n ≤ k ↔ n < 2 ^ k := by
  unfold nb
  split
  · next h => subst h; simp [Nat.two_pow_pos]
  · next h => rw [← Nat.log2_lt h]; omega
theorem nser_len (z : Int) : (nser z).length = 1 + nb z.natAbs / 7 := by simp [nser]; omega
theorem rser_len (c : Nat) : (rser c).length = c % 16 := by simp [rser]
theorem size4_len (n : Nat) : (size4 n).length = 4 := rfl
