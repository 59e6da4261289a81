/-- a row of the table of types: word, left, right, parts, comparable, data, storable -/
abbrev TR : Type := Nat × Option Nat × Option Nat × Nat × Bool × Bool × Bool
def tW (r : TR) : Nat := r.1
def tL (r : TR) : Option Nat := r.2.1
def tR (r : TR) : Option Nat := r.2.2.1
def tP (r : TR) : Nat := r.2.2.2.1
def tC (r : TR) : Bool := r.2.2.2.2.1
def tD (r : TR) : Bool := r.2.2.2.2.2.1
def tS (r : TR) : Bool := r.2.2.2.2.2.2
def oI (o : Option Nat) : Int32 := match o with | none => -1 | some k => nI k
def oP (o : Option Nat) (f : Nat → Nat) : Nat := match o with | none => 0 | some k => f k
def oB (o : Option Nat) (f : Nat → Bool) : Bool := match o with | none => true | some k => f k
/-- marks as a number -/
def tK (r : TR) : Nat := (if tC r = true then 1 else 0) + (if tD r = true then 2 else 0) + (if tS r = true then 4 else 0)
/-- a row that fits the rows before it -/
def rOK (tb : Nat → TR) (t : Nat) (r : TR) : Prop :=
  tW r ≤ 18 ∧ (tW r < 10 → tW r = t) ∧ (t < 10 → tW r = t) ∧ (tL r = none ↔ tW r < 10) ∧ (tR r = none ↔ tW r < 14) ∧ (∀ k, tL r = some k → k < t) ∧ (∀ k, tR r = some k → k < t) ∧
  tP r = 1 + oP (tL r) (fun k => tP (tb k)) + oP (tR r) (fun k => tP (tb k)) ∧ tP r ≤ 200 ∧
  tC r = (decide (tW r < 9) || ((decide (tW r = 10) || decide (tW r = 14) || decide (tW r = 18)) && oB (tL r) (fun k => tC (tb k)) && oB (tR r) (fun k => tC (tb k)))) ∧
  tD r = (!(decide (tW r = 9) || decide (tW r = 13) || decide (tW r = 16) || decide (tW r = 17)) && oB (tL r) (fun k => tD (tb k)) && oB (tR r) (fun k => tD (tb k))) ∧
  tS r = (tD r || (decide (tW r = 16) && oB (tR r) (fun k => tD (tb k))) || (decide (tW r = 18) && oB (tL r) (fun k => tS (tb k)) && oB (tR r) (fun k => tS (tb k)))) ∧
  ((tW r = 12 ∨ tW r = 15 ∨ tW r = 16) → oB (tL r) (fun k => tC (tb k)) = true)
def tOK (tb : Nat → TR) (n : Nat) : Prop := n ≤ 2000 ∧ 10 ≤ n ∧ ∀ t, t < n → rOK tb t (tb t)
/-- the reference's three arrays hold the table -/
def mT (tb : Nat → TR) (n : Nat) (wd lf rt : Nat → Int32) : Prop := ∀ t, t < n → wd t = nI (tW (tb t)) ∧ lf t = oI (tL (tb t)) ∧ rt t = oI (tR (tb t))
theorem oI_neg {o : Option Nat} (h : o = none) : oI o = -1 := by rw [h]; rfl
theorem oI_some {o : Option Nat} {k : Nat} (h : o = some k) : oI o = nI k := by rw [h]; rfl
