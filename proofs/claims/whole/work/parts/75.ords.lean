theorem nb_less {x y : Nat} (h : nb y < nb x) : y < x := by
  rcases Nat.lt_or_ge y x with q | q
  · exact q
  · have h1 : y < 2 ^ nb y := nb_lt.mp (Nat.le_refl _)
    have h2 : nb x ≤ nb y := nb_lt.mpr (by omega)
    omega
theorem dg_all {N n : Nat} (h : nb N ≤ 16 * n) : dval (fun k => N / 65536 ^ k % 65536) n = N := by
  rw [dig_dval (N := N) (fun j _ => rfl), p65]
  exact Nat.mod_eq_of_lt (nb_lt.mp h)
theorem dg_less {N M n i : Nat} (hN : nb N ≤ 16 * n) (hM : nb M ≤ 16 * n) (hi : i < n) (he : ∀ k, i < k → k < n → N / 65536 ^ k % 65536 = M / 65536 ^ k % 65536) (h : N / 65536 ^ i % 65536 < M / 65536 ^ i % 65536) : N < M := by
  have h2 := dval_lex (f := fun k => N / 65536 ^ k % 65536) (g := fun k => M / 65536 ^ k % 65536) (n := n) (i := i) (fun k _ => Nat.mod_lt _ (by decide)) hi he h
  rw [dg_all hN, dg_all hM] at h2
  exact h2
theorem dg_same {N M n : Nat} (hN : nb N ≤ 16 * n) (hM : nb M ≤ 16 * n) (he : ∀ k, 0 ≤ k → k < n → N / 65536 ^ k % 65536 = M / 65536 ^ k % 65536) : N = M := by
  rw [← dg_all hN, ← dg_all hM]
  exact dval_congr (fun q hq => he q (Nat.zero_le _) hq)
theorem nI_prd (q : Nat) : nI (q + 1) - 1 = nI q := pk_sub (a := q + 1) (b := 1) (by omega)
theorem i32_dec (x : Int32) : x + (-1) = x - 1 := by rw [Int32.sub_eq_add_neg]
/-- the answer of numberOrder where the sizes differ -/
theorem ic_pp {z y : Int} (hz : ¬ z < 0) (hy : ¬ y < 0) (h : y.natAbs < z.natAbs) : icmp z y = 1 := by rw [icmp_pos hz hy, sg_gt h]
theorem ic_pn {z y : Int} (hz : ¬ z < 0) (hy : ¬ y < 0) (h : z.natAbs < y.natAbs) : icmp z y = -1 := by rw [icmp_pos hz hy, sg_lt h]
theorem ic_np {z y : Int} (hz : z < 0) (hy : y < 0) (h : y.natAbs < z.natAbs) : icmp z y = -1 := by rw [icmp_neg hz hy, sg_gt h]
theorem ic_nn {z y : Int} (hz : z < 0) (hy : y < 0) (h : z.natAbs < y.natAbs) : icmp z y = 1 := by rw [icmp_neg hz hy, sg_lt h]; rfl
theorem ic_0 {z : Int} : icmp z z = 0 := by unfold icmp; rw [if_neg (by omega), if_neg (by omega)]
theorem ic_lt {z y : Int} (h : z < y) : icmp z y = -1 := if_pos h
theorem ic_gt {z y : Int} (h : y < z) : icmp z y = 1 := by unfold icmp; rw [if_neg (by omega), if_pos h]
