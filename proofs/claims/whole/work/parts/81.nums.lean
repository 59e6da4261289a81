theorem dcnt {k : Nat} (h : k ≤ 3000) : (nI k + 16 - 1) / 16 = nI ((k + 15) / 16) := by
  rw [show nI k + 16 = nI (k + 16) from nI_add k 16, show nI (k + 16) - 1 = nI (k + 16 - 1) from pk_sub (a := k + 16) (b := 1) (by omega), show k + 16 - 1 = k + 15 by omega]
  exact pk_div (a := k + 15) (d := 16) (by omega) (by decide) (by decide)
theorem iushr16 {a : Nat} (h : a < 2147483648) : ((nI a).toUInt32 >>> (((16 : Int32)).toUInt32 &&& Int32.toUInt32 31)).toInt32 = nI (a / 65536) := by
  have e : ((nI a).toUInt32 >>> (((16 : Int32)).toUInt32 &&& Int32.toUInt32 31)) = UInt32.ofNat (a / 65536) := by
    apply UInt32.toNat_inj.mp
    rw [UInt32.toNat_shiftRight, Nat.shiftRight_eq_div_pow]
    have e1 : (nI a).toUInt32.toNat = a := by
      show (UInt32.ofNat a).toNat = a
      rw [UInt32.toNat_ofNat']
      omega
    rw [e1, UInt32.toNat_ofNat']
    show a / 2 ^ 16 = _
    omega
  rw [e]; rfl
theorem sh_hi {d r : Nat} (hr : r < 16) (hd : d < 65536) : nI (d * 2 ^ r) &&& 65535 = nI (d % 2 ^ (16 - r) * 2 ^ r) := by
  rw [show nI (d * 2 ^ r) &&& 65535 = nI (d * 2 ^ r % 65536) from nI_and65535 (n := d * 2 ^ r) (by have := hi_lt hd hr; omega)]
  congr 1
  rw [show (65536 : Nat) = 2 ^ (16 - r) * 2 ^ r by rw [← Nat.pow_add, show 16 - r + r = 16 by omega], Nat.mul_mod_mul_right]
theorem sh_lo {d r : Nat} (hr : r < 16) : d * 2 ^ r / 65536 = d / 2 ^ (16 - r) := by
  rw [show (65536 : Nat) = 2 ^ (16 - r) * 2 ^ r by rw [← Nat.pow_add, show 16 - r + r = 16 by omega], Nat.mul_div_mul_right _ _ (Nat.two_pow_pos r)]
theorem sh_sum {x y r : Nat} (hr : r < 16) (hy : y < 2 ^ r) : (x * 2 ^ r + y) % 65536 = x % 2 ^ (16 - r) * 2 ^ r + y := by
  have e : (65536 : Nat) = 2 ^ r * 2 ^ (16 - r) := by rw [← Nat.pow_add, show r + (16 - r) = 16 by omega]
  rw [e, Nat.mod_mul, show (x * 2 ^ r + y) % 2 ^ r = y by rw [Nat.add_comm, Nat.add_mul_mod_self_right, Nat.mod_eq_of_lt hy], show (x * 2 ^ r + y) / 2 ^ r = x by rw [Nat.add_comm, Nat.add_mul_div_right _ _ (Nat.two_pow_pos r), Nat.div_eq_of_lt hy, Nat.zero_add], Nat.mul_comm, Nat.add_comm]
/-- a digit of a shifted number -/
theorem sh_dig {N n q : Nat} : N * 2 ^ n / 65536 ^ (n / 16 + (q + 1)) % 65536 = (N / 65536 ^ (q + 1) % 65536) % 2 ^ (16 - n % 16) * 2 ^ (n % 16) + N / 65536 ^ q % 65536 / 2 ^ (16 - n % 16) := by
  rw [shl_b, sh_sum (Nat.mod_lt _ (by decide)) (lo_lt (Nat.mod_lt _ (by decide)) (Nat.mod_lt _ (by decide))), p65 (q + 1), p65 q]
theorem sh_dig0 {N n : Nat} : N * 2 ^ n / 65536 ^ (n / 16) % 65536 = (N / 65536 ^ 0 % 65536) % 2 ^ (16 - n % 16) * 2 ^ (n % 16) := by
  have h := sh_sum (x := N / 2 ^ (16 * 0) % 65536) (y := 0) (r := n % 16) (Nat.mod_lt _ (by decide)) (Nat.two_pow_pos _)
  rw [Nat.add_zero, Nat.add_zero] at h
  rw [shl_a rfl, h, p65 0]
theorem dig_00 {N i : Nat} (h : (nb N + 15) / 16 ≤ i) : N / 65536 ^ i % 65536 = 0 := by rw [p65]; exact dig_0 h
theorem or_0 (x : Int32) : x ||| 0 = x := by rw [Int32.or_zero]
theorem nb_shift {N n : Nat} (h : 0 < N) : nb (N * 2 ^ n) = nb N + n := by
  unfold nb
  have h2 : 0 < 2 ^ n := Nat.two_pow_pos n
  have h3 : N * 2 ^ n ≠ 0 := Nat.mul_ne_zero (by omega) (by omega)
  rw [if_neg h3, if_neg (by omega)]
  have e : (N * 2 ^ n).log2 = N.log2 + n := by
    apply (Nat.log2_eq_iff h3).mpr
    have h4 := (Nat.log2_eq_iff (n := N) (by omega)).mp rfl
    constructor
    · rw [Nat.pow_add]; exact Nat.mul_le_mul_right _ h4.1
    · rw [show N.log2 + n + 1 = N.log2 + 1 + n by omega, Nat.pow_add]; exact Nat.mul_lt_mul_of_pos_right h4.2 h2
  rw [e]; omega
theorem wl_num {z : Int} {t : Nat} (h : nb z.natAbs ≤ 3000) : wlen (.num z) t = 2 + nI (nb z.natAbs) / 7 := by
  unfold wlen
  rw [l_num, nser_len, show nI (nb z.natAbs) / 7 = nI (nb z.natAbs / 7) from pk_div (a := nb z.natAbs) (d := 7) (by omega) (by decide) (by decide), show (2 : Int32) = nI 2 from rfl, nI_add]
  congr 1
  omega
theorem pos64 {x : Int64} (h : ¬ x < 0) : x.toUInt64.toNat = x.toInt.natAbs := by
  have h1 : 0 ≤ x.toInt := by rw [Int64.lt_iff_toInt_lt] at h; have : (0 : Int64).toInt = 0 := rfl; omega
  have e : x.toInt = if 2 * x.toBitVec.toNat < 2 ^ 64 then (x.toBitVec.toNat : Int) else (x.toBitVec.toNat : Int) - (2 ^ 64 : Nat) := BitVec.toInt_eq_toNat_cond x.toBitVec
  show x.toBitVec.toNat = x.toInt.natAbs
  have hl := x.toBitVec.isLt
  split at e <;> omega
theorem neg64 {x : Int64} (h : x < 0) : (-x).toUInt64.toNat = x.toInt.natAbs := by
  have h1 : x.toInt < 0 := by rw [Int64.lt_iff_toInt_lt] at h; have : (0 : Int64).toInt = 0 := rfl; omega
  have e : x.toInt = if 2 * x.toBitVec.toNat < 2 ^ 64 then (x.toBitVec.toNat : Int) else (x.toBitVec.toNat : Int) - (2 ^ 64 : Nat) := BitVec.toInt_eq_toNat_cond x.toBitVec
  show (-x.toBitVec).toNat = x.toInt.natAbs
  rw [BitVec.toNat_neg]
  have hl := x.toBitVec.isLt
  split at e <;> omega
theorem nb64 (x : Int64) : nb x.toInt.natAbs ≤ 64 := by
  apply nb_lt.mpr
  have h1 := x.le_toInt
  have h2 := x.toInt_lt
  omega
theorem wty_num {tb : Nat → TR} {tc : Nat} (hO : tOK tb tc) {z : Int} {k : Nat} (hk : k = 2 ∨ k = 3 ∨ k = 4 ∨ k = 8) (h1 : z.natAbs < 2 ^ 1024) (h2 : k = 3 ∨ k = 4 → 0 ≤ z) (h3 : k = 4 → z.natAbs < 2 ^ 63) : wty tb (.pow (.num z) k) 0 k := by
  have e : tW (tb k) = k := (hO.2.2 k (by have := hO.2.1; omega)).2.2.1 (by omega)
  refine ⟨rfl, rfl, rfl, ?_⟩
  rw [e]
  exact ⟨hk, h1, h2, h3⟩
theorem nu_out {t : Int32} {x : Int64} (h2 : ¬ t = 2) (h8 : ¬ t = 8) (h3 : ¬ t = 3) (h4 : ¬ t = 4) : o_number t x = none := if_neg (fun q => q.elim h2 (fun q => q.elim h8 (fun q => q.1.elim h3 h4)))
