/-- the number that the first n digits to the base 65536 give -/
def dval (dg : Nat → Nat) : Nat → Nat
  | 0 => 0
  | k + 1 => dval dg k + dg k * 2 ^ (16 * k)
theorem p16s (k : Nat) : 2 ^ (16 * (k + 1)) = 2 ^ (16 * k) * 65536 := by rw [show 16 * (k + 1) = 16 * k + 16 by omega, Nat.pow_add]
theorem dval_lt {dg : Nat → Nat} {n : Nat} (h : ∀ k, k < n → dg k < 65536) : dval dg n < 2 ^ (16 * n) := by
  induction n with
  | zero => exact Nat.one_pos
  | succ n ih =>
    have h1 := ih (fun k hk => h k (by omega))
    have h2 := h n (by omega)
    show dval dg n + dg n * 2 ^ (16 * n) < 2 ^ (16 * (n + 1))
    rw [p16s]
    have h3 : dg n * 2 ^ (16 * n) ≤ 65535 * 2 ^ (16 * n) := Nat.mul_le_mul_right _ (by omega)
    have h4 : 2 ^ (16 * n) * 65536 = 65535 * 2 ^ (16 * n) + 2 ^ (16 * n) := by omega
    omega
theorem dval_congr {f g : Nat → Nat} {n : Nat} (h : ∀ k, k < n → f k = g k) : dval f n = dval g n := by
  induction n with
  | zero => rfl
  | succ n ih =>
    show dval f n + f n * _ = dval g n + g n * _
    rw [ih (fun k hk => h k (by omega)), h n (by omega)]
theorem dval_digit {dg : Nat → Nat} {n q : Nat} (h : ∀ k, k < n → dg k < 65536) (hq : q < n) : dval dg n / 2 ^ (16 * q) % 65536 = dg q := by
  induction n with
  | zero => omega
  | succ n ih =>
    have hn := fun k (hk : k < n) => h k (by omega)
    show (dval dg n + dg n * 2 ^ (16 * n)) / 2 ^ (16 * q) % 65536 = dg q
    rcases Nat.lt_or_ge q n with c | c
    · have e : 2 ^ (16 * n) = 65536 * 2 ^ (16 * (n - q - 1)) * 2 ^ (16 * q) := by
        rw [show (65536 : Nat) = 2 ^ 16 from rfl, ← Nat.pow_add, ← Nat.pow_add]
        congr 1; omega
      rw [e, ← Nat.mul_assoc, Nat.add_mul_div_right _ _ (Nat.two_pow_pos _), ← Nat.mul_assoc, Nat.mul_comm (dg n) 65536, Nat.mul_assoc, Nat.add_mul_mod_self_left]
      exact ih hn c
    · have e : q = n := by omega
      subst e
      rw [Nat.add_mul_div_right _ _ (Nat.two_pow_pos _), Nat.div_eq_of_lt (dval_lt hn), Nat.zero_add]
      exact Nat.mod_eq_of_lt (h q (by omega))
theorem dval_hi {dg : Nat → Nat} {n q : Nat} (h : ∀ k, k < n → dg k < 65536) (hq : n ≤ q) : dval dg n / 2 ^ (16 * q) = 0 :=
  Nat.div_eq_of_lt (Nat.lt_of_lt_of_le (dval_lt h) (Nat.pow_le_pow_right (by decide) (by omega)))
theorem dval_upd {dg : Nat → Nat} {n q y : Nat} (hq : q < n) : dval (updN dg q (dg q + y)) n = dval dg n + y * 2 ^ (16 * q) := by
  induction n with
  | zero => omega
  | succ n ih =>
    show dval (updN dg q (dg q + y)) n + updN dg q (dg q + y) n * 2 ^ (16 * n) = dval dg n + dg n * 2 ^ (16 * n) + y * 2 ^ (16 * q)
    rcases Nat.lt_or_ge q n with c | c
    · rw [ih c, updN_n (by omega)]; omega
    · have e : q = n := by omega
      subst e
      rw [updN_s, dval_congr (g := dg) (fun k hk => updN_n (by omega)), Nat.add_mul]; omega
theorem dval_ext {dg : Nat → Nat} {n : Nat} : dval (updN dg n 0) (n + 1) = dval dg n := by
  show dval (updN dg n 0) n + updN dg n 0 n * _ = _
  rw [updN_s, Nat.zero_mul, Nat.add_zero]
  exact dval_congr (fun k hk => updN_n (by omega))
/-- bit 'at' of the number, out of its digit -/
theorem dval_bit {dg : Nat → Nat} {n q r : Nat} (h : ∀ k, k < n → dg k < 65536) (hr : r < 16) : (if q < n then dg q else 0) / 2 ^ r % 2 = dval dg n / 2 ^ (16 * q + r) % 2 := by
  rw [Nat.pow_add, ← Nat.div_div_eq_div_mul]
  by_cases hq : q < n
  · rw [if_pos hq, ← dval_digit h hq]
    have e : (65536 : Nat) = 2 ^ r * 2 ^ (16 - r) := by rw [← Nat.pow_add, show r + (16 - r) = 16 by omega]
    rw [e, Nat.mod_mul_right_div_self]
    have e2 : 2 ^ (16 - r) = 2 * 2 ^ (16 - r - 1) := by rw [← Nat.pow_succ', show (16 - r - 1).succ = 16 - r by omega]
    rw [e2, Nat.mod_mul_right_mod]
  · rw [if_neg hq, dval_hi h (by omega), Nat.zero_div]
theorem nb_pos {n : Nat} (h : 0 < n) : 2 ^ (nb n - 1) ≤ n ∧ 0 < nb n := by
  unfold nb
  rw [if_neg (by omega)]
  exact ⟨by rw [Nat.add_sub_cancel]; exact Nat.log2_self_le (by omega), by omega⟩
theorem nb_unique {n k : Nat} (h1 : n < 2 ^ k) (h2 : k = 0 ∨ 2 ^ (k - 1) ≤ n) : nb n = k := by
  have a := nb_lt.mpr h1
  rcases h2 with h2 | h2
  · omega
  · rcases Nat.lt_or_ge (nb n) k with c | c
    · have := nb_lt.mp (show nb n ≤ k - 1 by omega); omega
    · omega
theorem nb_dval {dg : Nat → Nat} {n : Nat} (h : ∀ k, k < n + 1 → dg k < 65536) (ht : dg n ≠ 0) : nb (dval dg (n + 1)) = 16 * n + nb (dg n) := by
  have h1 := dval_lt (fun k (hk : k < n) => h k (by omega))
  obtain ⟨h2, h3⟩ := nb_pos (n := dg n) (by omega)
  have h4 : dg n < 2 ^ nb (dg n) := nb_lt.mp (Nat.le_refl _)
  apply nb_unique
  · show dval dg n + dg n * 2 ^ (16 * n) < 2 ^ (16 * n + nb (dg n))
    rw [Nat.pow_add, Nat.mul_comm (2 ^ (16 * n))]
    have : (dg n + 1) * 2 ^ (16 * n) ≤ 2 ^ nb (dg n) * 2 ^ (16 * n) := Nat.mul_le_mul_right _ h4
    rw [Nat.add_mul] at this
    omega
  · right
    show _ ≤ dval dg n + dg n * 2 ^ (16 * n)
    rw [show 16 * n + nb (dg n) - 1 = (nb (dg n) - 1) + 16 * n by omega, Nat.pow_add]
    have := Nat.mul_le_mul_right (2 ^ (16 * n)) h2
    omega
theorem s_l9 : ∀ n, n < 32 → ((nI n &&& 31).toBitVec.smod 32).toNat = n := by decide
theorem nI_shr {n r : Nat} (hn : n < 2 ^ 31) (hr : r < 32) : nI n >>> (nI r &&& 31) = nI (n / 2 ^ r) := pk_shrN hn _ r (s_l9 r hr)
theorem nI_shlr {n r : Nat} (hr : r < 32) (hn : n * 2 ^ r < 2 ^ 32) : nI n <<< (nI r &&& 31) = nI (n * 2 ^ r) := pk_shlN _ r (s_l9 r hr) hn
theorem nI_and1 {n : Nat} (h : n < 2 ^ 32) : nI n &&& 1 = nI (n % 2) := pk_andN h 1 (by decide)
theorem nI_and63 {n : Nat} (h : n < 2 ^ 32) : nI n &&& 63 = nI (n % 64) := pk_andN h 6 (by decide)
theorem nI_and127 {n : Nat} (h : n < 2 ^ 32) : nI n &&& 127 = nI (n % 128) := pk_andN h 7 (by decide)
theorem nI_and65535 {n : Nat} (h : n < 2 ^ 32) : nI n &&& 65535 = nI (n % 65536) := pk_andN h 16 (by decide)
theorem nI_or (a b : Nat) : nI a ||| nI b = nI (a ||| b) := by
  apply Int32.toBitVec_inj.mp
  show BitVec.ofNat 32 a ||| BitVec.ofNat 32 b = BitVec.ofNat 32 (a ||| b)
  rw [BitVec.ofNat_or]
theorem nI_or_add {a r y : Nat} (h : a < 2 ^ r) : nI a ||| nI (y * 2 ^ r) = nI (a + y * 2 ^ r) := by
  rw [nI_or]
  congr 1
  rw [Nat.or_comm, Nat.mul_comm, ← Nat.two_pow_add_eq_or_of_lt h]; omega
theorem nb_loop {n k : Nat} (h1 : n / 2 ^ k ≤ 0) (h2 : k = 0 ∨ n / 2 ^ (k - 1) ≠ 0) : nb n = k := by
  refine nb_unique ?_ (h2.imp id (fun h => ?_))
  · rcases Nat.lt_or_ge n (2 ^ k) with q | q
    · exact q
    · exact absurd (Nat.div_pos q (Nat.two_pow_pos k)) (by omega)
  · rcases Nat.lt_or_ge n (2 ^ (k - 1)) with q | q
    · exact absurd (Nat.div_eq_of_lt q) h
    · exact q
theorem bits_end {dg : Nat → Nat} {dc k : Nat} (hd : ∀ q, q < dc → dg q < 65536) (ht : dc = 0 ∨ dg (dc - 1) ≠ 0) (h0 : ¬ dc = 0) (h : nb (dg (dc - 1)) = k) : 16 * (dc - 1) + k = nb (dval dg dc) := by
  have h6 := nb_dval (dg := dg) (n := dc - 1) (fun q hq => hd q (by omega)) (by rcases ht with h | h <;> omega)
  rw [show dc - 1 + 1 = dc by omega] at h6
  rw [h6, h]
theorem bit_step (x k : Nat) : x % 2 ^ (k + 1) = 2 * (x / 2 % 2 ^ k) + x % 2 := by
  rw [Nat.pow_succ', Nat.mod_mul, Nat.add_comm]
theorem dgat {dg : Nat → Nat} {n : Nat} (h : ∀ k, k < n → dg k < 65536) (q : Nat) : (if q < n then dg q else 0) < 65536 := by
  split
  · next c => exact h q c
  · omega
/-- a bit put above a number -/
theorem bit_put {N v f k : Nat} : N + v % 2 ^ k * 2 ^ f + v / 2 ^ k % 2 * 2 ^ (f + k) = N + v % 2 ^ (k + 1) * 2 ^ f := by
  have e : v % 2 ^ (k + 1) = v % 2 ^ k + 2 ^ k * (v / 2 ^ k % 2) := by rw [Nat.pow_succ, Nat.mod_mul]
  rw [e, Nat.add_mul, Nat.pow_add, Nat.mul_comm (2 ^ f), ← Nat.mul_assoc, Nat.mul_comm (2 ^ k) (v / 2 ^ k % 2)]
  omega
theorem low_lt {N v f k : Nat} (h : N < 2 ^ f) : N + v % 2 ^ k * 2 ^ f < 2 ^ (f + k) := by
  have h1 : v % 2 ^ k + 1 ≤ 2 ^ k := Nat.mod_lt _ (Nat.two_pow_pos k)
  have h2 := Nat.mul_le_mul_right (2 ^ f) h1
  rw [Nat.add_mul] at h2
  rw [Nat.pow_add, Nat.mul_comm (2 ^ f)]
  omega
/-- the digit in which bit 'at' lies is below that bit, where the number is -/
theorem dig_low {dg : Nat → Nat} {n t : Nat} (h : ∀ k, k < n → dg k < 65536) (hn : dval dg n < 2 ^ t) (hq : t / 16 < n) : dg (t / 16) < 2 ^ (t % 16) := by
  rw [← dval_digit h hq]
  have e : t = t % 16 + 16 * (t / 16) := by omega
  have h1 : dval dg n / 2 ^ (16 * (t / 16)) < 2 ^ (t % 16) := by
    rw [Nat.div_lt_iff_lt_mul (Nat.two_pow_pos _), ← Nat.pow_add, ← e]
    exact hn
  exact Nat.lt_of_le_of_lt (Nat.mod_le _ _) h1
theorem sh_bnd {b r : Nat} (hb : b < 2) (hr : r < 16) : b * 2 ^ r < 2 ^ 32 := by
  have h1 : 2 ^ r ≤ 2 ^ 15 := Nat.pow_le_pow_right (by decide) (by omega)
  have h2 : b * 2 ^ r ≤ 1 * 2 ^ 15 := Nat.mul_le_mul (by omega) h1
  omega
theorem set_step {eg : Nat → Nat} {ec f k v N0 : Nat} (he : ∀ q, q < ec → eg q < 65536) (hq : (f + k) / 16 < ec) (hval : dval eg ec = N0 + v % 2 ^ k * 2 ^ f) (hN : N0 < 2 ^ f) :
    (∀ i, i < ec → updN eg ((f + k) / 16) (eg ((f + k) / 16) + v / 2 ^ k % 2 * 2 ^ ((f + k) % 16)) i < 65536) ∧ dval (updN eg ((f + k) / 16) (eg ((f + k) / 16) + v / 2 ^ k % 2 * 2 ^ ((f + k) % 16))) ec = N0 + v % 2 ^ (k + 1) * 2 ^ f := by
  have hlow : eg ((f + k) / 16) < 2 ^ ((f + k) % 16) := dig_low he (by rw [hval]; exact low_lt hN) hq
  refine ⟨fun i hi => ?_, ?_⟩
  · by_cases h : i = (f + k) / 16
    · subst h
      rw [updN_s]
      have h1 : v / 2 ^ k % 2 < 2 := Nat.mod_lt _ (by decide)
      have h2 : v / 2 ^ k % 2 * 2 ^ ((f + k) % 16) ≤ 1 * 2 ^ ((f + k) % 16) := Nat.mul_le_mul_right _ (by omega)
      have h3 : 2 ^ ((f + k) % 16) ≤ 2 ^ 15 := Nat.pow_le_pow_right (by decide) (by omega)
      omega
    · rw [updN_n h]; exact he i hi
  · rw [dval_upd hq, hval, Nat.mul_assoc, ← Nat.pow_add, show (f + k) % 16 + 16 * ((f + k) / 16) = f + k by omega, bit_put]
theorem ext_step {eg : Nat → Nat} {ec : Nat} (he : ∀ q, q < ec → eg q < 65536) : ∀ q, q < ec + 1 → updN eg ec 0 q < 65536 := fun q hq => by
  by_cases h : q = ec
  · subst h; rw [updN_s]; omega
  · rw [updN_n h]; exact he q (by omega)
theorem nI_and64 : ∀ n, n < 256 → nI n &&& 64 = nI (n / 64 % 2 * 64) := by decide +kernel
theorem nser_0 (z : Int) : (nser z).getD 0 0 % 64 = z.natAbs % 64 ∧ (nser z).getD 0 0 / 64 % 2 = (if z < 0 then 1 else 0) := by
  show (z.natAbs % 64 + (if z < 0 then 64 else 0) + (if 6 < nb z.natAbs then 128 else 0)) % 64 = _ ∧ (z.natAbs % 64 + (if z < 0 then 64 else 0) + (if 6 < nb z.natAbs then 128 else 0)) / 64 % 2 = _
  split <;> split <;> omega
theorem nser_s {z : Int} {j : Nat} (h : j < nb z.natAbs / 7) : (nser z).getD (j + 1) 0 % 128 = z.natAbs / 2 ^ (6 + 7 * j) % 128 := by
  have e : (nser z).getD (j + 1) 0 = nbyte z.natAbs j := by simp [nser, List.getD_eq_getElem?_getD, h]
  rw [e]
  unfold nbyte
  split <;> omega
theorem load_step (n j : Nat) : n % 2 ^ (6 + 7 * j) + n / 2 ^ (6 + 7 * j) % 128 % 2 ^ 7 * 2 ^ (6 + 7 * j) = n % 2 ^ (6 + 7 * (j + 1)) := by
  rw [show 6 + 7 * (j + 1) = (6 + 7 * j) + 7 by omega]
  generalize 6 + 7 * j = e
  rw [Nat.pow_add, Nat.mod_mul, show (2 ^ 7 : Nat) = 128 from rfl, Nat.mod_mod, Nat.mul_comm (2 ^ e)]
theorem load_end (n : Nat) : n % 2 ^ (6 + 7 * (nb n / 7)) = n := Nat.mod_eq_of_lt (nb_lt.mp (by omega))
theorem take_1 (z : Int) : (nser z).take (1 + 0) = [z.natAbs % 64 + (if z < 0 then 64 else 0) + (if 6 < nb z.natAbs then 128 else 0)] := rfl
theorem take_n {z : Int} {j : Nat} (h : j < nb z.natAbs / 7) : (nser z).take (1 + j) ++ [nbyte z.natAbs j] = (nser z).take (1 + (j + 1)) := by
  have hl := nser_len z
  have e : (nser z)[1 + j]? = some (nbyte z.natAbs j) := by
    rw [Nat.add_comm]; simp [nser, h]
  rw [show 1 + (j + 1) = 1 + j + 1 by omega, List.take_succ, e]; rfl
