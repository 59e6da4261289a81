/-- what held, typeNumbered answer -/
def hdP (D : va_G) (dT : Nat → ClassId) (B : Nat → Prop) (RV : Nat → Option VT) (r : Int32) (H : Heap) (v : Value) : Prop := (v = .null ∧ rgs RV r = none) ∨ ∃ a w, v = .ref a ∧ rgs RV r = some w ∧ rv D dT B H w a
def tnP (D : va_G) (B : Nat → Prop) (tb : Nat → TR) (tc : Nat) (t : Int32) (H : Heap) (v : Value) : Prop := (v = .null ∧ tN tc t = none) ∨ ∃ a k, v = .ref a ∧ tN tc t = some k ∧ k < tc ∧ ¬ B a ∧ va_at D cls (a, .inr (1, tyF (tb k))) H
def a_word (tb : Nat → TR) (tc : Nat) (t : Int32) : Int32 := match tN tc t with | none => -1 | some k => nI (tW (tb k))
def a_left (tb : Nat → TR) (tc : Nat) (t : Int32) : Int32 := match tN tc t with | none => -1 | some k => oI (tL (tb k))
def a_right (tb : Nat → TR) (tc : Nat) (t : Int32) : Int32 := match tN tc t with | none => -1 | some k => oI (tR (tb k))
def a_side (tb : Nat → TR) (tc : Nat) (t sd9 : Int32) : Int32 := if sd9 = 0 ∧ (a_word tb tc t = 10 ∨ a_word tb tc t = 14) then a_left tb tc t else if sd9 = 1 ∧ a_word tb tc t = 14 then a_right tb tc t else -1
theorem kp_in {RV : Nat → Option VT} {j : Nat} {x : VT} (hj : j < 16) (h : (cs x).length ≤ 160) : kp RV (nI j) (some x) = (nI (cs x).length, updR RV j (some x)) := by
  unfold kp; dsimp only; rw [if_pos (inR_nI hj), if_neg (by omega), nI_clamp (by omega)]
theorem kp_full {RV : Nat → Option VT} {j : Nat} {x : VT} (hj : j < 16) (h : 160 < (cs x).length) : kp RV (nI j) (some x) = (-2, RV) := by
  unfold kp; dsimp only; rw [if_pos (inR_nI hj), if_pos h]
theorem tK_lt (r : TR) : tK r < 8 := by
  unfold tK
  split <;> split <;> split <;> decide
theorem tK_1 (r : TR) : tK r % 2 = if tC r = true then 1 else 0 := by
  unfold tK
  split <;> split <;> split <;> rfl
theorem tK_2 (r : TR) : tK r / 2 % 2 = if tD r = true then 1 else 0 := by
  unfold tK
  split <;> split <;> split <;> rfl
theorem tK_4 (r : TR) : tK r / 4 % 2 = if tS r = true then 1 else 0 := by
  unfold tK
  split <;> split <;> split <;> rfl
theorem nI_and2 {a : Nat} (h : a < 8) : nI a &&& 2 = nI (a / 2 % 2 * 2) := (show ∀ a, a < 8 → nI a &&& 2 = nI (a / 2 % 2 * 2) by decide) a h
theorem nI_and4 {a : Nat} (h : a < 8) : nI a &&& 4 = nI (a / 4 % 2 * 4) := (show ∀ a, a < 8 → nI a &&& 4 = nI (a / 4 % 2 * 4) by decide) a h
theorem nI_or2 {a : Nat} (h : a < 2) : nI a ||| 2 = nI (a + 2) := (show ∀ a, a < 2 → nI a ||| 2 = nI (a + 2) by decide) a h
theorem nI_or4 {a : Nat} (h : a < 4) : nI a ||| 4 = nI (a + 4) := (show ∀ a, a < 4 → nI a ||| 4 = nI (a + 4) by decide) a h
/-- marks of a word, of all marks and the right's -/
def mks (w a b : Nat) : Nat := (if w < 9 ∨ w = 10 ∨ w = 14 ∨ w = 18 then a % 2 else 0) + (if ¬ (w = 9 ∨ w = 13 ∨ w = 16 ∨ w = 17) ∧ a / 2 % 2 = 1 then 6 else if (w = 16 ∧ b / 2 % 2 = 1) ∨ (w = 18 ∧ a / 4 % 2 = 1) then 4 else 0)
/-- shifts of longs -/
theorem u64_shr (x : Int64) {k : Nat} (h : k < 64) : (x.toUInt64 >>> ((nI k).toInt64.toUInt64 &&& Int64.toUInt64 63)).toNat = x.toUInt64.toNat / 2 ^ k := by
  have e : ((nI k).toInt64.toUInt64 &&& Int64.toUInt64 63).toNat % 64 = k := (show ∀ k, k < 64 → ((nI k).toInt64.toUInt64 &&& Int64.toUInt64 63).toNat % 64 = k by decide) k h
  rw [UInt64.toNat_shiftRight, e, Nat.shiftRight_eq_div_pow]
theorem u64_0 (y : UInt64) : y.toInt64 = 0 ↔ y.toNat = 0 := by
  constructor
  · intro h
    have h2 : y = Int64.toUInt64 0 := by
      have := congrArg Int64.toUInt64 h
      simpa using this
    rw [h2]; rfl
  · intro h
    have h2 : y = 0 := UInt64.toNat_inj.mp h
    rw [h2]; rfl
theorem u64_low (y : UInt64) (m : Nat) (hm : m ≤ 31) : ((y.toInt64).toInt32 &&& nI (2 ^ m - 1)) = nI (y.toNat % 2 ^ m) := by
  apply Int32.toBitVec_inj.mp
  rw [Int32.toBitVec_and, Int64.toBitVec_toInt32, BitVec.signExtend_eq_setWidth_of_le _ (by decide)]
  have e1 : (nI (y.toNat % 2 ^ m)).toBitVec = BitVec.ofNat 32 (y.toBitVec.toNat % 2 ^ m) := rfl
  have e3 : (nI (2 ^ m - 1)).toBitVec = BitVec.ofNat 32 (2 ^ m - 1) := rfl
  rw [e1, e3]
  apply BitVec.eq_of_getLsbD_eq
  intro j hj
  rw [BitVec.getLsbD_and, BitVec.getLsbD_setWidth, BitVec.getLsbD_ofNat, BitVec.getLsbD_ofNat, Nat.testBit_mod_two_pow, Nat.testBit_two_pow_sub_one]
  have e2 : y.toInt64.toBitVec = y.toBitVec := rfl
  rw [e2]
  simp [hj, BitVec.getLsbD, Bool.and_comm]
theorem nb_of {N k : Nat} (h1 : k = 0 ∨ ¬ N / 2 ^ (k - 1) = 0) (h2 : N / 2 ^ k = 0) : nb N = k := by
  have hlt : N < 2 ^ k := by
    rcases Nat.lt_or_ge N (2 ^ k) with q | q
    · exact q
    · exact absurd (Nat.div_pos q (Nat.two_pow_pos k)) (by omega)
  have ha := nb_lt.mpr hlt
  rcases h1 with h1 | h1
  · omega
  · rcases Nat.lt_or_ge (nb N) k with q | q
    · have := nb_lt.mp (show nb N ≤ k - 1 by omega)
      exact absurd (Nat.div_eq_of_lt this) h1
    · omega
