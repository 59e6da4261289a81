/-- the order of two longs -/
def lc (x y : Int64) : Int32 := if x > y then 1 else if x = y then 0 else -1
theorem lc_eq {x y : Int64} : lc x y = 0 ↔ x = y := by
  unfold lc
  by_cases h1 : x > y
  · rw [if_pos h1]
    exact ⟨fun h => absurd h (by decide), fun h => absurd (h ▸ h1) (Int64.lt_irrefl)⟩
  · rw [if_neg h1]
    by_cases h2 : x = y
    · rw [if_pos h2]; exact ⟨fun _ => h2, fun _ => rfl⟩
    · rw [if_neg h2]; exact ⟨fun h => absurd h (by decide), fun h => absurd h h2⟩
theorem lc_ge {x y : Int64} : 0 ≤ lc x y ↔ ¬ x < y := by
  unfold lc
  by_cases h1 : x > y
  · rw [if_pos h1]
    exact ⟨fun _ h => by rw [Int64.lt_iff_toInt_lt] at h; rw [gt_iff_lt, Int64.lt_iff_toInt_lt] at h1; omega, fun _ => by decide⟩
  · rw [if_neg h1]
    by_cases h2 : x = y
    · rw [if_pos h2]; exact ⟨fun _ => by rw [h2]; exact Int64.lt_irrefl, fun _ => by decide⟩
    · rw [if_neg h2]
      refine ⟨fun h => absurd h (by decide), fun h => ?_⟩
      exfalso
      rw [gt_iff_lt, Int64.lt_iff_toInt_lt] at h1
      rw [Int64.lt_iff_toInt_lt] at h
      exact h2 (Int64.toInt_inj.mp (by omega))
section LCM
variable {p : Program} {l : Launch} {e : Env} {R : Room} {s : State} {m : MethodId} {args : Array Value} {below : List Frame} {meth : Method} {c : Code} {H : Heap} {locs : List Loc} {cells slots : Nat} {Q : State → Prop} {cc : ByteArray} {pc : Nat} {ls : Array Slot} {rest : List Value}
theorem z_lcmp (hexec : p.tables.exec = Jvm.exec) (hb : c.code = cc) {x y : Int64} (hdg : decode cc pc = .ok (.lcmp, 1))
    (k : W p l e R s m args below meth c H locs cells slots Q (F0 m (pc + 1) ls (.int (lc x y) :: rest))) : W p l e R s m args below meth c H locs cells slots Q (F0 m pc ls (.long y :: .long x :: rest)) := by
  intro T hT X
  obtain ⟨t, a, b⟩ := k T hT X
  refine ⟨t, ?_, b⟩
  unfold lc at a
  jvm_step X.here [X.here.top, hexec, hb, hdg]
  by_cases h1 : x > y
  · simp only [h1, if_true] at a ⊢; exact a
  · by_cases h2 : x = y
    · simp [h2] at a ⊢; exact a
    · simp [h1, h2] at a ⊢; exact a
end LCM
theorem sm8 : ∀ i, i < 8 → (((nI (8 * i)).toInt64 &&& 63).toBitVec.smod 64).toNat = 8 * i := by decide
theorem lbyte (x : Int64) {i : Nat} (h : i < 8) : ((x >>> ((nI (8 * i)).toInt64 &&& 63)) &&& 255).toInt32 = nI (x.toUInt64.toNat / 256 ^ i % 256) := by
  apply Int32.toBitVec_inj.mp
  rw [Int64.toBitVec_toInt32, BitVec.signExtend_eq_setWidth_of_le _ (by decide), Int64.toBitVec_and, Int64.toBitVec_shiftRight]
  apply BitVec.eq_of_getLsbD_eq
  intro j hj
  have e1 : (nI (x.toUInt64.toNat / 256 ^ i % 256)).toBitVec = BitVec.ofNat 32 (x.toBitVec.toNat / 2 ^ (8 * i) % 2 ^ 8) := by
    rw [show (256 : Nat) ^ i = 2 ^ (8 * i) by rw [Nat.pow_mul]]
    rfl
  rw [e1, BitVec.getLsbD_setWidth, BitVec.getLsbD_and, BitVec.sshiftRight', sm8 i h, BitVec.getLsbD_sshiftRight, BitVec.getLsbD_ofNat, Nat.testBit_mod_two_pow, Nat.testBit_div_two_pow]
  have e2 : ((255 : Int64).toBitVec).getLsbD j = decide (j < 8) := by
    rw [show ((255 : Int64).toBitVec) = BitVec.ofNat 64 (2 ^ 8 - 1) from rfl, BitVec.getLsbD_ofNat, Nat.testBit_two_pow_sub_one]
    simp; omega
  rw [e2]
  by_cases h8 : j < 8
  · have h64 : ¬ 64 ≤ j := by omega
    simp [h8, hj, h64, show 8 * i + j < 64 by omega, BitVec.getLsbD, Nat.add_comm]
    intro h9; omega
  · simp [h8]
theorem bm64 {x : Int} (h1 : -9223372036854775808 ≤ x) (h2 : x < 9223372036854775808) : x.bmod (2 ^ 64) = x := by
  rw [Int.bmod_def]
  split <;> omega
theorem bm32 {x : Int} (h1 : -2147483648 ≤ x) (h2 : x < 2147483648) : x.bmod (2 ^ 32) = x := by
  rw [Int.bmod_def]
  split <;> omega
theorem td_pos (M : Nat) : ((M : Int)).tdiv 65536 = ((M / 65536 : Nat) : Int) := by
  rw [Int.tdiv_eq_ediv_of_nonneg (by omega)]; rfl
theorem num_pos {r : Int64} {M : Nat} (h : r.toInt = (M : Int)) : (r - r / 65536 * 65536).toInt32 = nI (M % 65536) ∧ (r / 65536).toInt = ((M / 65536 : Nat) : Int) := by
  have hr := r.toInt_lt
  have e1 : (r / 65536).toInt = ((M / 65536 : Nat) : Int) := by
    rw [Int64.toInt_div, h, show ((65536 : Int64)).toInt = 65536 from rfl, td_pos, bm64 (by omega) (by omega)]
  refine ⟨?_, e1⟩
  apply Int32.toInt_inj.mp
  rw [Int64.toInt_toInt32, Int64.toInt_sub, Int64.toInt_mul, e1, h, show ((65536 : Int64)).toInt = 65536 from rfl, bm64 (x := _ * _) (by omega) (by omega), bm64 (by omega) (by omega), nI_toInt (by omega), bm32 (by omega) (by omega)]
  omega
theorem num_neg {r : Int64} {M : Nat} (h : r.toInt = -(M : Int)) : (r - r / 65536 * 65536).toInt32 = -(nI (M % 65536)) ∧ (r / 65536).toInt = -((M / 65536 : Nat) : Int) := by
  have hr := r.le_toInt
  have e1 : (r / 65536).toInt = -((M / 65536 : Nat) : Int) := by
    rw [Int64.toInt_div, h, show ((65536 : Int64)).toInt = 65536 from rfl, Int.neg_tdiv, td_pos, bm64 (by omega) (by omega)]
  refine ⟨?_, e1⟩
  apply Int32.toInt_inj.mp
  rw [Int64.toInt_toInt32, Int64.toInt_sub, Int64.toInt_mul, e1, h, show ((65536 : Int64)).toInt = 65536 from rfl, bm64 (x := _ * _) (by omega) (by omega), bm64 (by omega) (by omega), Int32.toInt_neg, nI_toInt (by omega), bm32 (by omega) (by omega), bm32 (by omega) (by omega)]
  omega
theorem tk_app {bs bx : List Nat} {i x : Nat} (h : i < bx.length) (hf : x % 256 = bx.getD i 0) : bs ++ bx.take i ++ [x % 256] = bs ++ bx.take (i + 1) := by
  rw [hf, List.append_assoc, List.take_succ, List.getD_eq_getElem?_getD, List.getElem?_eq_getElem h]
  rfl
theorem rser_get {c i : Nat} (h : i < c % 16) : (rser c).getD i 0 = c / 16 / 256 ^ i % 256 := by
  unfold rser
  simp [List.getD_eq_getElem?_getD, h]
/-- the code of a row -/
theorem row_code {n L : Nat} (h : n ≤ 8) : (n + 16 * (L % 256 ^ n)) % 16 = n ∧ (n + 16 * (L % 256 ^ n)) / 16 = L % 256 ^ n := by omega
theorem row_byte {n L i : Nat} (h : n ≤ 8) (hi : i < n) : (rser (n + 16 * (L % 256 ^ n))).getD i 0 = L / 256 ^ i % 256 := by
  rw [rser_get (by rw [(row_code h).1]; exact hi), (row_code h).2]
  have e : 256 ^ n = 256 ^ i * (256 * 256 ^ (n - i - 1)) := by
    rw [← Nat.pow_succ', ← Nat.pow_add]
    congr 1; omega
  rw [e, Nat.mod_mul_right_div_self, Nat.mod_mul_right_mod]
theorem neg_0 {d : Nat} (h : d < 65536) (h0 : 0 ≤ -(nI d)) : -(nI d) = nI d := by
  have e : d = 0 := by
    rw [Int32.le_iff_toInt_le, Int32.toInt_neg, nI_toInt (by omega), bm32 (by omega) (by omega)] at h0
    have : (0 : Int32).toInt = 0 := rfl
    omega
  subst e; rfl
/-- digits of a number -/
theorem dig_dval {dg : Nat → Nat} {N : Nat} : ∀ {k : Nat}, (∀ j, j < k → dg j = N / 65536 ^ j % 65536) → dval dg k = N % 65536 ^ k := by
  intro k
  induction k with
  | zero => intro _; simp [dval, Nat.mod_one]
  | succ k ih =>
    intro h
    show dval dg k + dg k * 2 ^ (16 * k) = _
    rw [ih (fun j hj => h j (by omega)), h k (by omega), show 2 ^ (16 * k) = 65536 ^ k by rw [Nat.pow_mul], Nat.pow_succ, Nat.mod_mul, Nat.mul_comm]
theorem num_4 {N : Nat} (h : N ≤ 9223372036854775808) {k : Nat} (hk : ¬ N / 65536 ^ k = 0) (h4 : k ≤ 4) : k < 4 := by
  rcases Nat.lt_or_ge k 4 with q | q
  · exact q
  · have e : k = 4 := by omega
    subst e
    exfalso; apply hk; omega
theorem p65 (i : Nat) : 65536 ^ i = 2 ^ (16 * i) := by rw [Nat.pow_mul]
theorem shl_0 {N n i : Nat} (h : i < n / 16) : N * 2 ^ n / 65536 ^ i % 65536 = 0 := by
  rw [p65, show n = 16 * i + (16 + (n - 16 * i - 16)) by omega, Nat.pow_add, ← Nat.mul_assoc, Nat.mul_right_comm, Nat.mul_div_cancel _ (Nat.two_pow_pos _), Nat.pow_add, ← Nat.mul_assoc, Nat.mul_right_comm]
  exact Nat.mul_mod_left _ _
theorem shl_a {N n i : Nat} (h : n / 16 = i) : N * 2 ^ n / 65536 ^ i % 65536 = N / 2 ^ (16 * 0) % 65536 * 2 ^ (n % 16) % 65536 := by
  rw [p65, show N * 2 ^ n = N * 2 ^ (16 * i + n % 16) by rw [show 16 * i + n % 16 = n by omega], Nat.pow_add, ← Nat.mul_assoc, Nat.mul_right_comm, Nat.mul_div_cancel _ (Nat.two_pow_pos _), Nat.mul_zero, Nat.pow_zero, Nat.div_one, Nat.mod_mul_mod]
theorem shl_b {N n q : Nat} : N * 2 ^ n / 65536 ^ (n / 16 + (q + 1)) % 65536 = (N / 2 ^ (16 * (q + 1)) % 65536 * 2 ^ (n % 16) + N / 2 ^ (16 * q) % 65536 / 2 ^ (16 - n % 16)) % 65536 := by
  have hr : n % 16 < 16 := Nat.mod_lt _ (by decide)
  generalize hrr : n % 16 = r at hr ⊢
  have e1 : N * 2 ^ n / 65536 ^ (n / 16 + (q + 1)) = N / 2 ^ (16 * q) / 2 ^ (16 - r) := by
    rw [p65, show 2 ^ n = 2 ^ (16 * (n / 16) + r) by rw [show 16 * (n / 16) + r = n by omega], show 16 * (n / 16 + (q + 1)) = (16 * q + (16 - r)) + (16 * (n / 16) + r) by omega, Nat.pow_add 2 (16 * q + (16 - r)), Nat.mul_div_mul_right _ _ (Nat.two_pow_pos _), Nat.pow_add, Nat.div_div_eq_div_mul]
  rw [e1, show 16 * (q + 1) = 16 * q + 16 by omega, Nat.pow_add, ← Nat.div_div_eq_div_mul]
  generalize N / 2 ^ (16 * q) = A
  have e2 : A / 2 ^ (16 - r) = A / 2 ^ 16 * 2 ^ r + A % 65536 / 2 ^ (16 - r) := by
    have h1 : A = 2 ^ (16 - r) * (A / 2 ^ 16 * 2 ^ r) + A % 65536 := by
      rw [Nat.mul_comm (A / 2 ^ 16), ← Nat.mul_assoc, ← Nat.pow_add, show 16 - r + r = 16 by omega]
      exact (Nat.div_add_mod A (2 ^ 16)).symm
    conv => lhs; rw [h1]
    rw [Nat.mul_add_div (Nat.two_pow_pos _)]
  rw [e2, Nat.add_mod, ← Nat.mod_mul_mod (A / 2 ^ 16), ← Nat.add_mod]
theorem lo_lt {x r : Nat} (hx : x < 65536) (hr : r < 16) : x / 2 ^ (16 - r) < 2 ^ r := by
  apply Nat.div_lt_of_lt_mul
  rw [← Nat.pow_add, show 16 - r + r = 16 by omega]
  exact hx
theorem hi_lt {x r : Nat} (hx : x < 65536) (hr : r < 16) : x * 2 ^ r < 2147483648 := by
  have h1 : 2 ^ r ≤ 2 ^ 15 := Nat.pow_le_pow_right (by decide) (by omega)
  have h2 : x * 2 ^ r ≤ 65535 * 2 ^ 15 := Nat.mul_le_mul (by omega) h1
  omega
theorem nI_or_r {a y r : Nat} (h : a < 2 ^ r) : nI (y * 2 ^ r) ||| nI a = nI (y * 2 ^ r + a) := by
  rw [Int32.or_comm, nI_or_add h, Nat.add_comm]
theorem dc_64 {dg : Nat → Nat} {dc : Nat} (hd : ∀ q, q < dc → dg q < 65536) (ht : dc = 0 ∨ dg (dc - 1) ≠ 0) (h : nb (dval dg dc) ≤ 1024) : dc ≤ 64 := by
  rcases Nat.eq_zero_or_pos dc with q | q
  · omega
  · have e := nb_dval (dg := dg) (n := dc - 1) (fun k hk => hd k (by omega)) (ht.resolve_left (by omega))
    rw [show dc - 1 + 1 = dc by omega] at e
    have h1 := (nb_pos (n := dg (dc - 1)) (Nat.pos_of_ne_zero (ht.resolve_left (by omega)))).2
    omega
theorem mul_lt2 {N n k : Nat} (h : nb N + n ≤ k) : N * 2 ^ n < 2 ^ k := by
  have h1 : N < 2 ^ nb N := nb_lt.mp (Nat.le_refl _)
  have h2 : N * 2 ^ n < 2 ^ nb N * 2 ^ n := Nat.mul_lt_mul_of_pos_right h1 (Nat.two_pow_pos n)
  rw [← Nat.pow_add] at h2
  exact Nat.lt_of_lt_of_le h2 (Nat.pow_le_pow_right (by decide) h)
theorem nb_0 {N : Nat} (h : nb N = 0) : N = 0 := by
  have := nb_lt.mp (show nb N ≤ 0 by omega)
  omega
theorem times_sgn {z : Int} {n : Nat} : (z * 2 ^ n < 0 ↔ z < 0) ∧ (z * 2 ^ n).natAbs = z.natAbs * 2 ^ n := by
  have h2 : (0 : Int) < 2 ^ n := Int.pow_pos (by decide)
  refine ⟨⟨fun h => ?_, fun h => Int.mul_neg_of_neg_of_pos h h2⟩, ?_⟩
  · rcases Int.lt_or_le z 0 with q | q
    · exact q
    · exact absurd (Int.mul_nonneg q (Int.le_of_lt h2)) (by omega)
  · rw [Int.natAbs_mul, Int.natAbs_pow]
    rfl
