theorem dig_step {dg : Nat → Nat} {N k : Nat} (h : ∀ j, j < k → dg j = N / 65536 ^ j % 65536) : ∀ j, j < k + 1 → updN dg k (N / 65536 ^ k % 65536) j = N / 65536 ^ j % 65536 := by
  intro j hj
  by_cases e : j = k
  · rw [e, updN_s]
  · rw [updN_n e]; exact h j (by omega)
theorem t_out {tc k : Nat} {t : Int32} (h : ¬ (0 ≤ t ∧ t < nI tc)) (h10 : 10 ≤ tc) (hc : tc ≤ 2000) (hk : k < 10) : ¬ t = nI k := by
  rintro rfl
  exact h ⟨nI_pos' (by omega), (nI_ltI (by omega) (by omega)).mpr (by omega)⟩
theorem by_t {tc : Nat} {t n : Int32} {x : Int64} (h : ¬ (0 ≤ t ∧ t < nI tc)) (h10 : 10 ≤ tc) (hc : tc ≤ 2000) : o_bytes t x n = none := if_neg (fun q => q.1.elim (t_out (k := 5) h h10 hc (by decide)) (t_out (k := 6) h h10 hc (by decide)))
theorem by_w {k : Nat} {n : Int32} {x : Int64} (hk : k < 2 ^ 31) (h : ¬ (k = 5 ∨ k = 6)) : o_bytes (nI k) x n = none := if_neg (fun q => h (q.1.imp (nI_eq (b := 5) hk (by decide)).mp (nI_eq (b := 6) hk (by decide)).mp))
theorem by_n {t n : Int32} {x : Int64} (h : n < 0 ∨ 8 < n) : o_bytes t x n = none := if_neg (fun q => h.elim (fun h9 => Int32.not_le.mpr h9 q.2.1) (fun h9 => Int32.not_le.mpr h9 q.2.2))
theorem by_o {k n : Nat} {x : Int64} (hk : k = 5 ∨ k = 6) (hn : n ≤ 8) : o_bytes (nI k) x (nI n) = some (.pow (.natCast (n + 16 * (x.toUInt64.toNat % 256 ^ n))) k) := by
  unfold o_bytes
  rw [if_pos ⟨hk.imp (fun h => by rw [h]; rfl) (fun h => by rw [h]; rfl), nI_pos' (by omega), (nI_leI (b := 8) (by omega) (by decide)).mpr hn⟩, nI_clamp (by omega), nI_clamp (by omega)]
theorem nu_t {tc : Nat} {t : Int32} {x : Int64} (h : ¬ (0 ≤ t ∧ t < nI tc)) (h10 : 10 ≤ tc) (hc : tc ≤ 2000) : o_number t x = none := if_neg (fun q => q.elim (t_out (k := 2) h h10 hc (by decide)) (fun q => q.elim (t_out (k := 8) h h10 hc (by decide)) (fun q => q.1.elim (t_out (k := 3) h h10 hc (by decide)) (t_out (k := 4) h h10 hc (by decide)))))
theorem nu_w {k : Nat} {x : Int64} (hk : k < 2 ^ 31) (h : ¬ (k = 2 ∨ k = 3 ∨ k = 4 ∨ k = 8)) : o_number (nI k) x = none := if_neg (fun q => h (q.elim (fun q => Or.inl ((nI_eq (b := 2) hk (by decide)).mp q)) (fun q => q.elim (fun q => Or.inr (Or.inr (Or.inr ((nI_eq (b := 8) hk (by decide)).mp q)))) (fun q => q.1.elim (fun q => Or.inr (Or.inl ((nI_eq (b := 3) hk (by decide)).mp q))) (fun q => Or.inr (Or.inr (Or.inl ((nI_eq (b := 4) hk (by decide)).mp q))))))))
theorem nu_n {k : Nat} {x : Int64} (hk : k = 3 ∨ k = 4) (h : x < 0) : o_number (nI k) x = none := by
  have hx : ¬ 0 ≤ x := Int64.not_le.mpr h
  rcases hk with rfl | rfl
  · exact if_neg (fun q => q.elim (fun q => absurd q (by decide)) (fun q => q.elim (fun q => absurd q (by decide)) (fun q => hx q.2)))
  · exact if_neg (fun q => q.elim (fun q => absurd q (by decide)) (fun q => q.elim (fun q => absurd q (by decide)) (fun q => hx q.2)))
theorem nu_o {k : Nat} {x : Int64} (hk : k = 2 ∨ k = 3 ∨ k = 4 ∨ k = 8) (h : x < 0 → k = 2 ∨ k = 8) : o_number (nI k) x = some (.pow (.num x.toInt) k) := by
  unfold o_number
  rw [if_pos, nI_clamp (by omega)]
  by_cases hx : x < 0
  · rcases h hx with rfl | rfl
    · exact Or.inl rfl
    · exact Or.inr (Or.inl rfl)
  · have hx : 0 ≤ x := Int64.not_lt.mp hx
    rcases hk with rfl | rfl | rfl | rfl
    · exact Or.inl rfl
    · exact Or.inr (Or.inr ⟨Or.inl rfl, hx⟩)
    · exact Or.inr (Or.inr ⟨Or.inr rfl, hx⟩)
    · exact Or.inr (Or.inl rfl)
abbrev b_M_bytes : ByteArray := prog_12_method_34_code
abbrev y_M_bytes : MethodName := ⟨"ValueTreesModel", "bytes", "(IIJI)I"⟩
abbrev w_M_bytes : List Cond := .code y_M_bytes b_M_bytes 7 (Option.some .int) :: gt
theorem hd_M_bytes : (y_M_bytes).cls ≠ "java/lang/invoke/MethodHandle" ∧ (y_M_bytes).cls ≠ "java/lang/invoke/VarHandle" ∧ (parseMethodDescriptor (y_M_bytes).desc).map (fun d => d.parameters.length) = some 4 := by decide +kernel
theorem d_M_bytes_0 : decode b_M_bytes 0 = .ok (.iload_n 1, 1) := by decide +kernel
theorem d_M_bytes_1 : decode b_M_bytes 1 = .ok (.invokestatic 66, 3) := by decide +kernel
theorem d_M_bytes_4 : decode b_M_bytes 4 = .ok (.ifCond .eq 44, 3) := by decide +kernel
theorem d_M_bytes_7 : decode b_M_bytes 7 = .ok (.aload_n 0, 1) := by decide +kernel
theorem d_M_bytes_8 : decode b_M_bytes 8 = .ok (.iload_n 2, 1) := by decide +kernel
theorem d_M_bytes_9 : decode b_M_bytes 9 = .ok (.invokevirtual 60, 3) := by decide +kernel
theorem d_M_bytes_12 : decode b_M_bytes 12 = .ok (.ifCond .eq 36, 3) := by decide +kernel
theorem d_M_bytes_15 : decode b_M_bytes 15 = .ok (.aload_n 0, 1) := by decide +kernel
theorem d_M_bytes_16 : decode b_M_bytes 16 = .ok (.getfield 7, 3) := by decide +kernel
theorem d_M_bytes_19 : decode b_M_bytes 19 = .ok (.iload_n 2, 1) := by decide +kernel
theorem d_M_bytes_20 : decode b_M_bytes 20 = .ok (.iaload, 1) := by decide +kernel
theorem d_M_bytes_21 : decode b_M_bytes 21 = .ok (.iconst 5, 1) := by decide +kernel
theorem d_M_bytes_22 : decode b_M_bytes 22 = .ok (.if_icmp .eq 14, 3) := by decide +kernel
theorem d_M_bytes_25 : decode b_M_bytes 25 = .ok (.aload_n 0, 1) := by decide +kernel
theorem d_M_bytes_26 : decode b_M_bytes 26 = .ok (.getfield 7, 3) := by decide +kernel
theorem d_M_bytes_29 : decode b_M_bytes 29 = .ok (.iload_n 2, 1) := by decide +kernel
theorem d_M_bytes_30 : decode b_M_bytes 30 = .ok (.iaload, 1) := by decide +kernel
theorem d_M_bytes_31 : decode b_M_bytes 31 = .ok (.bipush 6, 2) := by decide +kernel
theorem d_M_bytes_33 : decode b_M_bytes 33 = .ok (.if_icmp .ne 15, 3) := by decide +kernel
theorem d_M_bytes_36 : decode b_M_bytes 36 = .ok (.iload 5, 2) := by decide +kernel
theorem d_M_bytes_38 : decode b_M_bytes 38 = .ok (.ifCond .lt 10, 3) := by decide +kernel
theorem d_M_bytes_41 : decode b_M_bytes 41 = .ok (.iload 5, 2) := by decide +kernel
theorem d_M_bytes_43 : decode b_M_bytes 43 = .ok (.bipush 8, 2) := by decide +kernel
theorem d_M_bytes_45 : decode b_M_bytes 45 = .ok (.if_icmp .le 5, 3) := by decide +kernel
theorem d_M_bytes_48 : decode b_M_bytes 48 = .ok (.iconst (-1), 1) := by decide +kernel
theorem d_M_bytes_49 : decode b_M_bytes 49 = .ok (.ireturn, 1) := by decide +kernel
theorem d_M_bytes_50 : decode b_M_bytes 50 = .ok (.aload_n 0, 1) := by decide +kernel
theorem d_M_bytes_51 : decode b_M_bytes 51 = .ok (.iconst 0, 1) := by decide +kernel
theorem d_M_bytes_52 : decode b_M_bytes 52 = .ok (.putfield 98, 3) := by decide +kernel
theorem d_M_bytes_55 : decode b_M_bytes 55 = .ok (.aload_n 0, 1) := by decide +kernel
theorem d_M_bytes_56 : decode b_M_bytes 56 = .ok (.aload_n 0, 1) := by decide +kernel
theorem d_M_bytes_57 : decode b_M_bytes 57 = .ok (.getfield 7, 3) := by decide +kernel
theorem d_M_bytes_60 : decode b_M_bytes 60 = .ok (.iload_n 2, 1) := by decide +kernel
theorem d_M_bytes_61 : decode b_M_bytes 61 = .ok (.iaload, 1) := by decide +kernel
theorem d_M_bytes_62 : decode b_M_bytes 62 = .ok (.bipush 6, 2) := by decide +kernel
theorem d_M_bytes_64 : decode b_M_bytes 64 = .ok (.if_icmp .ne 8, 3) := by decide +kernel
theorem d_M_bytes_67 : decode b_M_bytes 67 = .ok (.bipush 10, 2) := by decide +kernel
theorem d_M_bytes_69 : decode b_M_bytes 69 = .ok (.goto 4, 3) := by decide +kernel
theorem d_M_bytes_72 : decode b_M_bytes 72 = .ok (.iconst 1, 1) := by decide +kernel
theorem d_M_bytes_73 : decode b_M_bytes 73 = .ok (.invokevirtual 101, 3) := by decide +kernel
theorem d_M_bytes_76 : decode b_M_bytes 76 = .ok (.aload_n 0, 1) := by decide +kernel
theorem d_M_bytes_77 : decode b_M_bytes 77 = .ok (.iload 5, 2) := by decide +kernel
theorem d_M_bytes_79 : decode b_M_bytes 79 = .ok (.invokevirtual 131, 3) := by decide +kernel
theorem d_M_bytes_82 : decode b_M_bytes 82 = .ok (.iconst 0, 1) := by decide +kernel
theorem d_M_bytes_83 : decode b_M_bytes 83 = .ok (.istore 6, 2) := by decide +kernel
theorem d_M_bytes_85 : decode b_M_bytes 85 = .ok (.iload 6, 2) := by decide +kernel
theorem d_M_bytes_87 : decode b_M_bytes 87 = .ok (.iload 5, 2) := by decide +kernel
theorem d_M_bytes_89 : decode b_M_bytes 89 = .ok (.if_icmp .ge 25, 3) := by decide +kernel
theorem d_M_bytes_92 : decode b_M_bytes 92 = .ok (.aload_n 0, 1) := by decide +kernel
theorem d_M_bytes_93 : decode b_M_bytes 93 = .ok (.lload_n 3, 1) := by decide +kernel
theorem d_M_bytes_94 : decode b_M_bytes 94 = .ok (.bipush 8, 2) := by decide +kernel
theorem d_M_bytes_96 : decode b_M_bytes 96 = .ok (.iload 6, 2) := by decide +kernel
theorem d_M_bytes_98 : decode b_M_bytes 98 = .ok (.imul, 1) := by decide +kernel
theorem d_M_bytes_99 : decode b_M_bytes 99 = .ok (.lshr, 1) := by decide +kernel
theorem d_M_bytes_100 : decode b_M_bytes 100 = .ok (.ldc2_w 134, 3) := by decide +kernel
theorem d_M_bytes_103 : decode b_M_bytes 103 = .ok (.land, 1) := by decide +kernel
theorem d_M_bytes_104 : decode b_M_bytes 104 = .ok (.l2i, 1) := by decide +kernel
theorem d_M_bytes_105 : decode b_M_bytes 105 = .ok (.invokevirtual 101, 3) := by decide +kernel
theorem d_M_bytes_108 : decode b_M_bytes 108 = .ok (.iinc 6 1, 3) := by decide +kernel
theorem d_M_bytes_111 : decode b_M_bytes 111 = .ok (.goto (-26), 3) := by decide +kernel
theorem d_M_bytes_114 : decode b_M_bytes 114 = .ok (.aload_n 0, 1) := by decide +kernel
theorem d_M_bytes_115 : decode b_M_bytes 115 = .ok (.iload_n 1, 1) := by decide +kernel
theorem d_M_bytes_116 : decode b_M_bytes 116 = .ok (.iload_n 2, 1) := by decide +kernel
theorem d_M_bytes_117 : decode b_M_bytes 117 = .ok (.invokevirtual 121, 3) := by decide +kernel
theorem d_M_bytes_120 : decode b_M_bytes 120 = .ok (.ireturn, 1) := by decide +kernel
set_option maxHeartbeats 4000000 in
set_option maxRecDepth 100000 in
theorem p_M_bytes (l : Launch) (D : va_G) (dT : Nat → ClassId) (H : Heap) (mm : Nat → Nat) (tb : Nat → TR) (tc : Nat) (RV : Nat → Option VT) (hI : mI D dT mm tb tc RV H) (r t : Int32) (x : Int64) (n : Int32) : Met l y_M_bytes w_M_bytes ({ frames := 3, cells := 0, slots := 0, locals := 70 }) (z_P D dT [.ref (mm 0), .int r, .int t, .long x, .int n] H) (z_Q (mA mm) (fun v H1 => v = some (.int (kp RV r (o_bytes t x n)).1) ∧ mI D dT mm tb tc (kp RV r (o_bytes t x n)).2 H1)) 0 0 (mA mm) := by
  obtain ⟨wd, lf, rt, ty, F, sz, Wk, wz, dg, dc, sh, hM, hO, hT, hR, hWk⟩ := hI
  have hF := hR.1
  have htc := hO.1
  have htc10 := hO.2.1
  refine Met.ofW (cc := b_M_bytes) (maxL := 7) (ret := (Option.some .int)) (by decide) rfl ?_
  intro p e s m args below meth c s₁ B hml hv
  obtain ⟨rfl, rfl, hK⟩ := hv
  have hx := B.exec
  have hb := B.bytes
  have hr := B.returns
  have hts := atoms_spec (ws := w_M_bytes) B.pre
  have ht : ∀ w9 ∈ gt, w9.before [.ref (mm 0), .int r, .int t, .long x, .int n].toArray s = true := fun w9 h => hts w9 (List.mem_cons_of_mem _ h)
  have hown : s.vm.findClass "ValueTreesModel" = some m.cls := findClass_of_methodNamed B.named
  have hlocks := B.notSynchronized
  have hS : va_S (mA mm) s.heap s.heap [] := va_S.rf
  have hl := lv_entry ([.ref (mm 0), .int r, .int t, .long x, .int n]) (n := 7) (Nat.le_of_ble_eq_true rfl)
  rw [lg_entry_eq]
  generalize (lg_sl ([.ref (mm 0), .int r, .int t, .long x, .int n]) ++ List.replicate (7 - (lg_sl ([.ref (mm 0), .int r, .int t, .long x, .int n])).length) Slot.unset).toArray = ls at hl ⊢
  have hl : lv_has ls 7 [(0, .ref (mm 0)), (1, .int r), (2, .int t), (3, .long x), (5, .int n)] := hl
  refine lv_iload_n hx hb d_M_bytes_0 rfl (lv_at hl 1 rfl) ?_
  refine z_callR (va_runS (As := [.int r]) (rest := []) ⟨hx, hb, hml, hown, hts⟩ (c_M_isRegister l D dT _ r) ⟨callB_of 1 hts (gI gd_up gd_c q619) rfl rfl rfl (ht _ q10) (ht _ q617) hd_M_isRegister ⟨Nat.le_of_ble_eq_true rfl, Nat.le_of_ble_eq_true rfl⟩, ht _ q618⟩ (z_preS hK) rfl rfl hl.1 rfl (lv_room (Nat.le_of_ble_eq_true rfl)) d_M_bytes_1 ⟨Nat.zero_le _, Nat.zero_le _⟩) (fun v2 hv1 => ?_)
  have hv1 : v2 = .int (if inR r then 1 else 0) := hv1
  rcases Classical.em (inR r) with hq3 | hq3
  · rw [if_pos hq3] at hv1
    subst hv1
    refine lv_if_eq (tgt := 48) hx hb d_M_bytes_4 (by decide) (fun c4 => absurd c4 (by decide)) (fun _ => ?_)
    obtain ⟨j, hj, rfl⟩ := inR_of hq3
    refine lv_aload_n hx hb d_M_bytes_7 rfl (lv_at hl 0 rfl) ?_
    refine lv_iload_n hx hb d_M_bytes_8 rfl (lv_at hl 2 rfl) ?_
    refine z_callR (va_runV (C := "ValueTreesModel") (As := [.int t]) (rest := []) ⟨hx, hb, hml, hown, hts⟩ (c_M_isType l D dT _ mm wd lf rt tc ty F sz Wk wz dg dc sh hM t) ⟨callB_of 1 hts (gI gd_up gd_c q584) rfl rfl rfl (ht _ q10) (ht _ q581) hd_M_isType ⟨Nat.le_of_ble_eq_true rfl, Nat.le_of_ble_eq_true rfl⟩, ht _ q583, ht _ qs13⟩ (z_preV hK (va_recv hK.1 hM.1 (ci := 10) (q0 := 0) rfl rfl)) rfl rfl hl.1 rfl (lv_room (Nat.le_of_ble_eq_true rfl)) d_M_bytes_9 ⟨Nat.zero_le _, Nat.zero_le _⟩) (fun v6 hv5 => ?_)
    have hv5 : v6 = .int (if 0 ≤ t ∧ t < nI tc then 1 else 0) := hv5
    rcases Classical.em (0 ≤ t ∧ t < nI tc) with hq7 | hq7
    · rw [if_pos hq7] at hv5
      subst hv5
      refine lv_if_eq (tgt := 48) hx hb d_M_bytes_12 (by decide) (fun c8 => absurd c8 (by decide)) (fun _ => ?_)
      obtain ⟨kt, hkt, rfl⟩ := tN_of hq7 htc
      have ekt1 := (hT kt hkt).1
      have ekt2 := (hT kt hkt).2.1
      have ekt3 := (hT kt hkt).2.2
      have rkt1 := (hO.2.2 kt hkt).1
      have rkt2 := (hO.2.2 kt hkt).2.1
      refine lv_aload_n hx hb d_M_bytes_15 rfl (lv_at hl 0 rfl) ?_
      refine va_get (D := D) (ci := 10) (v := .ref (mm 1)) (C := "ValueTreesModel") (T := T_M) (N := 12) hx hb ht in_M hown hK.1 hM.1 0 rfl rfl 0 (by decide) (ht _ q539) (fun _ h9 => h9) rfl d_M_bytes_16 ?_
      refine lv_iload_n hx hb d_M_bytes_19 rfl (lv_at hl 2 rfl) ?_
      refine z_iald hx hb hK (hM.1 1 _ rfl) kt rfl (by omega) (by decide) d_M_bytes_20 ?_
      rw [ekt1]
      refine lv_iconst (v := 5) hx hb d_M_bytes_21 (by decide) ?_
      refine lv_icmp_eq (tgt := 36) hx hb d_M_bytes_22 (by decide) (fun c9 => ?_) (fun c9 => ?_)
      · have nc9 : (tW (tb kt)) = 5 := (nI_eq (a := (tW (tb kt))) (b := 5) (by omega) (by omega)).mp c9
        have hword : tW (tb kt) = 5 := nc9
        have ekt : kt = 5 := by rw [← rkt2 (by omega)]; exact hword
        refine lv_iload hx hb d_M_bytes_36 (lv_at hl 4 rfl) ?_
        refine lv_if_lt (tgt := 48) hx hb d_M_bytes_38 (by decide) (fun c10 => ?_) (fun c10 => ?_)
        · refine lv_iconst (v := (-1)) hx hb d_M_bytes_48 (by decide) ?_
          refine z_iretQ hx hb hr hlocks d_M_bytes_49 hS (Nat.le_refl _) (Nat.le_refl _) ?_
          have eo : o_bytes (nI kt) x n = none := by_n (Or.inl c10)
          rw [eo]
          exact ⟨rfl, _, _, _, _, _, _, _, _, _, _, _, hM, hO, hT, hR, hWk⟩
        · refine lv_iload hx hb d_M_bytes_41 (lv_at hl 4 rfl) ?_
          refine lv_bipush (v := 8) hx hb d_M_bytes_43 (by decide) ?_
          refine lv_icmp_le (tgt := 50) hx hb d_M_bytes_45 (by decide) (fun c11 => ?_) (fun c11 => ?_)
          · obtain ⟨nn, hnn, rfl⟩ := nI_of c10
            have hn8 : nn ≤ 8 := (nI_leI (b := 8) hnn (by decide)).mp c11
            obtain ⟨cx, ecx⟩ : ∃ y, y = nn + 16 * (x.toUInt64.toNat % 256 ^ nn) := ⟨_, rfl⟩
            have hc16 : cx % 16 = nn := by rw [ecx]; exact (row_code hn8).1
            have hc17 : cx / 16 = x.toUInt64.toNat % 256 ^ nn := by rw [ecx]; exact (row_code hn8).2
            have hby : ∀ i, i < nn → (rser cx).getD i 0 = x.toUInt64.toNat / 256 ^ i % 256 := fun i hi => by rw [ecx]; exact row_byte hn8 hi
            have hlr : (rser cx).length = nn := by rw [rser_len, hc16]
            refine lv_aload_n hx hb d_M_bytes_50 rfl (lv_at hl 0 rfl) ?_
            refine lv_iconst (v := 0) hx hb d_M_bytes_51 (by decide) ?_
            refine m_put_wz hx hb ht hown hK hM hS (ht _ q547) 0 rfl d_M_bytes_52 (fun H locs hM hS => ?_)
            have hM : mAt D dT mm wd lf rt tc ty F sz Wk 0 dg dc sh H := hM
            have hW : wAt Wk ([] : List Nat) := wAt_nil hWk
            have hM : mAt D dT mm wd lf rt tc ty F sz Wk (([] : List Nat).length) dg dc sh H := hM
            refine lv_aload_n hx hb d_M_bytes_55 rfl (lv_at hl 0 rfl) ?_
            refine lv_aload_n hx hb d_M_bytes_56 rfl (lv_at hl 0 rfl) ?_
            refine va_get (D := D) (ci := 10) (v := .ref (mm 1)) (C := "ValueTreesModel") (T := T_M) (N := 12) hx hb ht in_M hown hK.1 hM.1 0 rfl rfl 0 (by decide) (ht _ q539) (fun _ h9 => h9) rfl d_M_bytes_57 ?_
            refine lv_iload_n hx hb d_M_bytes_60 rfl (lv_at hl 2 rfl) ?_
            refine z_iald hx hb hK (hM.1 1 _ rfl) kt rfl (by omega) (by decide) d_M_bytes_61 ?_
            rw [ekt1]
            refine lv_bipush (v := 6) hx hb d_M_bytes_62 (by decide) ?_
            refine lv_icmp_ne (tgt := 72) hx hb d_M_bytes_64 (by decide) (fun c12 => ?_) (fun c12 => absurd ((nI_eq (a := (tW (tb kt))) (b := 6) (by omega) (by omega)).mp c12) (by omega))
            refine lv_iconst (v := 1) hx hb d_M_bytes_72 (by decide) ?_
            refine z_callQ (va_runV (C := "ValueTreesModel") (As := [.int 1]) (rest := []) ⟨hx, hb, hml, hown, hts⟩ (c_M_lay l D dT _ mm wd lf rt tc ty F sz Wk ([] : List Nat) dg dc sh hM hW 1 (by (try simp only [List.length_append, List.length_cons, List.length_nil, size4_len]); omega)) ⟨callB_of 1 hts (gI gd_up gd_c q635) rfl rfl rfl (ht _ q10) (ht _ q632) hd_M_lay ⟨Nat.le_of_ble_eq_true rfl, Nat.le_of_ble_eq_true rfl⟩, ht _ q634, ht _ qs22⟩ (z_preV hK (va_recv hK.1 hM.1 (ci := 10) (q0 := 0) rfl rfl)) rfl rfl hl.1 rfl (lv_room (Nat.le_of_ble_eq_true rfl)) d_M_bytes_73 ⟨Nat.le_refl _, Nat.le_refl _⟩) hS (fun _ h9 => h9) (fun v14 H locs hv13 hz15 hf16 hS => ?_)
            obtain ⟨rfl, Wk, hW, hWk17, hM⟩ := hv13
            refine W.eq (g2 := F0 m 76 ls []) rfl ?_
            refine lv_aload_n hx hb d_M_bytes_76 rfl (lv_at hl 0 rfl) ?_
            refine lv_iload hx hb d_M_bytes_77 (lv_at hl 4 rfl) ?_
            refine z_callQ (va_runV (C := "ValueTreesModel") (As := [.int (nI nn)]) (rest := []) ⟨hx, hb, hml, hown, hts⟩ (c_M_putSize l D dT _ mm wd lf rt tc ty F sz Wk (([] : List Nat) ++ [1 % 256]) dg dc sh hM hW nn (by omega) (by (try simp only [List.length_append, List.length_cons, List.length_nil, size4_len]); omega)) ⟨callB_of 1 hts (gI gd_up gd_c q687) rfl rfl rfl (ht _ q10) (ht _ q684) hd_M_putSize ⟨Nat.le_of_ble_eq_true rfl, Nat.le_of_ble_eq_true rfl⟩, ht _ q686, ht _ qs32⟩ (z_preV hK (va_recv hK.1 hM.1 (ci := 10) (q0 := 0) rfl rfl)) rfl rfl hl.1 rfl (lv_room (Nat.le_of_ble_eq_true rfl)) d_M_bytes_79 ⟨Nat.le_refl _, Nat.le_refl _⟩) hS (fun _ h9 => h9) (fun v19 H locs hv18 hz20 hf21 hS => ?_)
            obtain ⟨rfl, Wk, hW, hWk22, hM⟩ := hv18
            refine W.eq (g2 := F0 m 82 ls []) rfl ?_
            refine lv_iconst (v := 0) hx hb d_M_bytes_82 (by decide) ?_
            refine lv_istore (lv' := [(6, .int 0), (0, .ref (mm 0)), (1, .int (nI j)), (2, .int (nI kt)), (3, .long x), (5, .int (nI nn))]) hx hb d_M_bytes_83 hl (by decide) rfl (fun ls hl => ?_)
            have hW : wAt Wk (([] : List Nat) ++ [1 % 256] ++ size4 nn ++ (rser cx).take 0) := by rw [List.take_zero, List.append_nil]; exact hW
            have hM : mAt D dT mm wd lf rt tc ty F sz Wk ((([] : List Nat) ++ [1 % 256] ++ size4 nn ++ (rser cx).take 0).length) dg dc sh H := by rw [List.take_zero, List.append_nil]; exact hM
            have loop23 : ∀ (n859 : Nat) (i : Nat), (i ≤ nn) → nn - i < n859 → ∀ (H : Heap) (locs : List Loc) (Wk : Nat → Nat), (wAt Wk (([] : List Nat) ++ [1 % 256] ++ size4 nn ++ (rser cx).take i)) → mAt D dT mm wd lf rt tc ty F sz Wk ((([] : List Nat) ++ [1 % 256] ++ size4 nn ++ (rser cx).take i).length) dg dc sh H → va_S (mA mm) s.heap H locs → ∀ (ls : Array Slot), lv_has ls 7 [(6, .int (nI i)), (0, .ref (mm 0)), (1, .int (nI j)), (2, .int (nI kt)), (3, .long x), (5, .int (nI nn))] → W p l e (headSpec w_M_bytes ({ frames := 3, cells := 0, slots := 0, locals := 70 })).room s m [.ref (mm 0), .int (nI j), .int (nI kt), .long x, .int (nI nn)].toArray below meth c H locs 0 0 (MQ below (z_Q (mA mm) (fun v H1 => v = some (.int (kp RV (nI j) (o_bytes (nI kt) x (nI nn))).1) ∧ mI D dT mm tb tc (kp RV (nI j) (o_bytes (nI kt) x (nI nn))).2 H1)) [.ref (mm 0), .int (nI j), .int (nI kt), .long x, .int (nI nn)].toArray s 0 0 (mA mm)) (F0 m 85 ls []) := by
              intro n859
              induction n859 with
              | zero =>
                intro i hi h859
                exact absurd h859 (Nat.not_lt_zero _)
              | succ n859 ih85 =>
                intro i hi h859 H locs Wk hW hM hS ls hl
                have htk : ((rser cx).take i).length = i := by rw [List.length_take]; omega
                refine lv_iload hx hb d_M_bytes_85 (lv_at hl 0 rfl) ?_
                refine lv_iload hx hb d_M_bytes_87 (lv_at hl 5 rfl) ?_
                refine lv_icmp_ge (tgt := 114) hx hb d_M_bytes_89 (by decide) (fun c24 => ?_) (fun c24 => ?_)
                · have nc24 : nn ≤ i := (nI_leI (a := nn) (b := i) (by omega) (by omega)).mp c24
                  have e9 : (rser cx).take i = rser cx := List.take_of_length_le (by omega)
                  rw [e9] at hW hM
                  refine lv_aload_n hx hb d_M_bytes_114 rfl (lv_at hl 1 rfl) ?_
                  refine lv_iload_n hx hb d_M_bytes_115 rfl (lv_at hl 2 rfl) ?_
                  refine lv_iload_n hx hb d_M_bytes_116 rfl (lv_at hl 3 rfl) ?_
                  have ebs : ([] : List Nat) ++ [1 % 256] ++ size4 nn ++ (rser cx) = cs (.pow (.natCast cx) kt) := (by show _ = ((if kt = 6 then 10 else 1) :: size4 (cx % 16)) ++ rser cx; rw [hc16, ekt]; rfl)
                  rw [ebs] at hW hM
                  refine z_callQ (va_runV (C := "ValueTreesModel") (As := [.int (nI j), .int (nI kt)]) (rest := []) ⟨hx, hb, hml, hown, hts⟩ (c_M_keep l D dT _ mm wd lf rt tc ty F sz Wk (cs (.pow (.natCast cx) kt)) dg dc sh hM hW j kt hj (by rw [← ebs]; simp only [List.length_append, List.length_cons, List.length_nil, size4_len]; omega)) ⟨callB_of 2 hts (gI gd_up gd_c q647) rfl rfl rfl (ht _ q10) (ht _ q644) hd_M_keep ⟨Nat.le_of_ble_eq_true rfl, Nat.le_of_ble_eq_true rfl⟩, ht _ q646, ht _ qs25⟩ (z_preV hK (va_recv hK.1 hM.1 (ci := 10) (q0 := 0) rfl rfl)) rfl rfl hl.1 rfl (lv_room (Nat.le_of_ble_eq_true rfl)) d_M_bytes_117 ⟨Nat.le_refl _, Nat.le_refl _⟩) hS (fun _ h9 => h9) (fun v26 H locs hv25 hz27 hf28 hS => ?_)
                  rcases hv25 with ⟨hk1, rfl, hM⟩ | ⟨hk1, rfl, hM⟩
                  · refine W.eq (g2 := F0 m 120 ls [.int (-2)]) rfl ?_
                    refine z_iretQ hx hb hr hlocks d_M_bytes_120 hS (Nat.le_refl _) (Nat.le_refl _) ?_
                    have eo := show o_bytes (nI kt) x (nI nn) = some (.pow (.natCast cx) kt) from (by rw [ecx]; exact by_o (by omega) hn8)
                    rw [eo]
                    exact kO_done ⟨_, _, _, _, _, hW.1, Or.inl ⟨hk1, rfl, hM⟩⟩ hO hT hR hj hkt ⟨rfl, rfl, rfl, by omega, by omega, by rw [hc16, hc17]; exact Nat.mod_lt _ (Nat.pow_pos (by decide))⟩
                  · refine W.eq (g2 := F0 m 120 ls [.int (nI (cs (.pow (.natCast cx) kt)).length)]) rfl ?_
                    refine z_iretQ hx hb hr hlocks d_M_bytes_120 hS (Nat.le_refl _) (Nat.le_refl _) ?_
                    have eo := show o_bytes (nI kt) x (nI nn) = some (.pow (.natCast cx) kt) from (by rw [ecx]; exact by_o (by omega) hn8)
                    rw [eo]
                    exact kO_done ⟨_, _, _, _, _, hW.1, Or.inr ⟨hk1, rfl, hM⟩⟩ hO hT hR hj hkt ⟨rfl, rfl, rfl, by omega, by omega, by rw [hc16, hc17]; exact Nat.mod_lt _ (Nat.pow_pos (by decide))⟩
                · have nc24 : ¬ nn ≤ i := fun h9 => c24 ((nI_leI (a := nn) (b := i) (by omega) (by omega)).mpr h9)
                  refine lv_aload_n hx hb d_M_bytes_92 rfl (lv_at hl 1 rfl) ?_
                  refine lv_lload_n hx hb d_M_bytes_93 rfl (lv_at hl 4 rfl) ?_
                  refine lv_bipush (v := 8) hx hb d_M_bytes_94 (by decide) ?_
                  refine lv_iload hx hb d_M_bytes_96 (lv_at hl 0 rfl) ?_
                  refine lv_imul hx hb d_M_bytes_98 ?_
                  rw [show ((8 * (nI i)) : Int32) = nI (8 * i) from pk_mul 8 i]
                  refine lv_lshr (v := (x >>> ((nI (8 * i)).toInt64 &&& 63))) hx hb d_M_bytes_99 rfl ?_
                  refine lv_ldc2 (v := 255) hx hb hown (hts (.constantLong "ValueTreesModel" 134 255) (by decide +kernel)) d_M_bytes_100 ?_
                  refine lv_land hx hb d_M_bytes_103 ?_
                  refine lv_l2i (v := ((x >>> ((nI (8 * i)).toInt64 &&& 63)) &&& 255).toInt32) hx hb d_M_bytes_104 rfl ?_
                  rw [lbyte x (by omega)]
                  refine z_callQ (va_runV (C := "ValueTreesModel") (As := [.int (nI (x.toUInt64.toNat / 256 ^ i % 256))]) (rest := []) ⟨hx, hb, hml, hown, hts⟩ (c_M_lay l D dT _ mm wd lf rt tc ty F sz Wk (([] : List Nat) ++ [1 % 256] ++ size4 nn ++ (rser cx).take i) dg dc sh hM hW (x.toUInt64.toNat / 256 ^ i % 256) (by (try simp only [List.length_append, List.length_cons, List.length_nil, size4_len]); omega)) ⟨callB_of 1 hts (gI gd_up gd_c q635) rfl rfl rfl (ht _ q10) (ht _ q632) hd_M_lay ⟨Nat.le_of_ble_eq_true rfl, Nat.le_of_ble_eq_true rfl⟩, ht _ q634, ht _ qs22⟩ (z_preV hK (va_recv hK.1 hM.1 (ci := 10) (q0 := 0) rfl rfl)) rfl rfl hl.1 rfl (lv_room (Nat.le_of_ble_eq_true rfl)) d_M_bytes_105 ⟨Nat.le_refl _, Nat.le_refl _⟩) hS (fun _ h9 => h9) (fun v30 H locs hv29 hz31 hf32 hS => ?_)
                  obtain ⟨rfl, Wk, hW, hWk33, hM⟩ := hv29
                  refine W.eq (g2 := F0 m 108 ls []) rfl ?_
                  refine lv_iinc (v := (nI (i + 1))) (lv' := [(6, .int (nI (i + 1))), (0, .ref (mm 0)), (1, .int (nI j)), (2, .int (nI kt)), (3, .long x), (5, .int (nI nn))]) hx hb d_M_bytes_108 hl (k := 0) rfl (nI_1 i) (by decide) rfl (fun ls hl => ?_)
                  refine lv_goto (tgt := 85) hx hb d_M_bytes_111 (by decide) ?_
                  have e9 := tk_app (bs := ([] : List Nat) ++ [1 % 256] ++ size4 nn) (bx := rser cx) (i := i) (x := x.toUInt64.toNat / 256 ^ i % 256) (by omega) (by rw [hby i (by omega)]; omega)
                  rw [e9] at hW hM
                  exact ih85 (i + 1) (by omega) (by omega) _ _ Wk hW hM hS ls (lv_sub hl [0, 1, 2, 3, 4, 5] rfl)
            exact loop23 (nn + 1) 0 (by omega) (by omega) _ _ Wk hW hM hS ls (lv_sub hl [0, 1, 2, 3, 4, 5] rfl)
          · refine lv_iconst (v := (-1)) hx hb d_M_bytes_48 (by decide) ?_
            refine z_iretQ hx hb hr hlocks d_M_bytes_49 hS (Nat.le_refl _) (Nat.le_refl _) ?_
            have eo : o_bytes (nI kt) x n = none := by_n (Or.inr (Int32.not_le.mp c11))
            rw [eo]
            exact ⟨rfl, _, _, _, _, _, _, _, _, _, _, _, hM, hO, hT, hR, hWk⟩
      · have nc9 : ¬ (tW (tb kt)) = 5 := fun h9 => c9 ((nI_eq (a := (tW (tb kt))) (b := 5) (by omega) (by omega)).mpr h9)
        refine lv_aload_n hx hb d_M_bytes_25 rfl (lv_at hl 0 rfl) ?_
        refine va_get (D := D) (ci := 10) (v := .ref (mm 1)) (C := "ValueTreesModel") (T := T_M) (N := 12) hx hb ht in_M hown hK.1 hM.1 0 rfl rfl 0 (by decide) (ht _ q539) (fun _ h9 => h9) rfl d_M_bytes_26 ?_
        refine lv_iload_n hx hb d_M_bytes_29 rfl (lv_at hl 2 rfl) ?_
        refine z_iald hx hb hK (hM.1 1 _ rfl) kt rfl (by omega) (by decide) d_M_bytes_30 ?_
        rw [ekt1]
        refine lv_bipush (v := 6) hx hb d_M_bytes_31 (by decide) ?_
        refine lv_icmp_ne (tgt := 48) hx hb d_M_bytes_33 (by decide) (fun c34 => ?_) (fun c34 => ?_)
        · have nc34 : ¬ (tW (tb kt)) = 6 := fun h9 => c34 ((nI_eq (a := (tW (tb kt))) (b := 6) (by omega) (by omega)).mpr h9)
          refine lv_iconst (v := (-1)) hx hb d_M_bytes_48 (by decide) ?_
          refine z_iretQ hx hb hr hlocks d_M_bytes_49 hS (Nat.le_refl _) (Nat.le_refl _) ?_
          have eo : o_bytes (nI kt) x n = none := by_w (by omega) (fun h9 => by have h8 := (hO.2.2 kt hkt).2.2.1 (by omega); omega)
          rw [eo]
          exact ⟨rfl, _, _, _, _, _, _, _, _, _, _, _, hM, hO, hT, hR, hWk⟩
        · have nc34 : (tW (tb kt)) = 6 := (nI_eq (a := (tW (tb kt))) (b := 6) (by omega) (by omega)).mp c34
          have hword : tW (tb kt) = 6 := nc34
          have ekt : kt = 6 := by rw [← rkt2 (by omega)]; exact hword
          refine lv_iload hx hb d_M_bytes_36 (lv_at hl 4 rfl) ?_
          refine lv_if_lt (tgt := 48) hx hb d_M_bytes_38 (by decide) (fun c35 => ?_) (fun c35 => ?_)
          · refine lv_iconst (v := (-1)) hx hb d_M_bytes_48 (by decide) ?_
            refine z_iretQ hx hb hr hlocks d_M_bytes_49 hS (Nat.le_refl _) (Nat.le_refl _) ?_
            have eo : o_bytes (nI kt) x n = none := by_n (Or.inl c35)
            rw [eo]
            exact ⟨rfl, _, _, _, _, _, _, _, _, _, _, _, hM, hO, hT, hR, hWk⟩
          · refine lv_iload hx hb d_M_bytes_41 (lv_at hl 4 rfl) ?_
            refine lv_bipush (v := 8) hx hb d_M_bytes_43 (by decide) ?_
            refine lv_icmp_le (tgt := 50) hx hb d_M_bytes_45 (by decide) (fun c36 => ?_) (fun c36 => ?_)
            · obtain ⟨nn, hnn, rfl⟩ := nI_of c35
              have hn8 : nn ≤ 8 := (nI_leI (b := 8) hnn (by decide)).mp c36
              obtain ⟨cx, ecx⟩ : ∃ y, y = nn + 16 * (x.toUInt64.toNat % 256 ^ nn) := ⟨_, rfl⟩
              have hc16 : cx % 16 = nn := by rw [ecx]; exact (row_code hn8).1
              have hc17 : cx / 16 = x.toUInt64.toNat % 256 ^ nn := by rw [ecx]; exact (row_code hn8).2
              have hby : ∀ i, i < nn → (rser cx).getD i 0 = x.toUInt64.toNat / 256 ^ i % 256 := fun i hi => by rw [ecx]; exact row_byte hn8 hi
              have hlr : (rser cx).length = nn := by rw [rser_len, hc16]
              refine lv_aload_n hx hb d_M_bytes_50 rfl (lv_at hl 0 rfl) ?_
              refine lv_iconst (v := 0) hx hb d_M_bytes_51 (by decide) ?_
              refine m_put_wz hx hb ht hown hK hM hS (ht _ q547) 0 rfl d_M_bytes_52 (fun H locs hM hS => ?_)
              have hM : mAt D dT mm wd lf rt tc ty F sz Wk 0 dg dc sh H := hM
              have hW : wAt Wk ([] : List Nat) := wAt_nil hWk
              have hM : mAt D dT mm wd lf rt tc ty F sz Wk (([] : List Nat).length) dg dc sh H := hM
              refine lv_aload_n hx hb d_M_bytes_55 rfl (lv_at hl 0 rfl) ?_
              refine lv_aload_n hx hb d_M_bytes_56 rfl (lv_at hl 0 rfl) ?_
              refine va_get (D := D) (ci := 10) (v := .ref (mm 1)) (C := "ValueTreesModel") (T := T_M) (N := 12) hx hb ht in_M hown hK.1 hM.1 0 rfl rfl 0 (by decide) (ht _ q539) (fun _ h9 => h9) rfl d_M_bytes_57 ?_
              refine lv_iload_n hx hb d_M_bytes_60 rfl (lv_at hl 2 rfl) ?_
              refine z_iald hx hb hK (hM.1 1 _ rfl) kt rfl (by omega) (by decide) d_M_bytes_61 ?_
              rw [ekt1]
              refine lv_bipush (v := 6) hx hb d_M_bytes_62 (by decide) ?_
              refine lv_icmp_ne (tgt := 72) hx hb d_M_bytes_64 (by decide) (fun c37 => absurd ((nI_eq (a := (tW (tb kt))) (b := 6) (by omega) (by omega)).mpr (by omega)) c37) (fun c37 => ?_)
              refine lv_bipush (v := 10) hx hb d_M_bytes_67 (by decide) ?_
              refine lv_goto (tgt := 73) hx hb d_M_bytes_69 (by decide) ?_
              refine z_callQ (va_runV (C := "ValueTreesModel") (As := [.int 10]) (rest := []) ⟨hx, hb, hml, hown, hts⟩ (c_M_lay l D dT _ mm wd lf rt tc ty F sz Wk ([] : List Nat) dg dc sh hM hW 10 (by (try simp only [List.length_append, List.length_cons, List.length_nil, size4_len]); omega)) ⟨callB_of 1 hts (gI gd_up gd_c q635) rfl rfl rfl (ht _ q10) (ht _ q632) hd_M_lay ⟨Nat.le_of_ble_eq_true rfl, Nat.le_of_ble_eq_true rfl⟩, ht _ q634, ht _ qs22⟩ (z_preV hK (va_recv hK.1 hM.1 (ci := 10) (q0 := 0) rfl rfl)) rfl rfl hl.1 rfl (lv_room (Nat.le_of_ble_eq_true rfl)) d_M_bytes_73 ⟨Nat.le_refl _, Nat.le_refl _⟩) hS (fun _ h9 => h9) (fun v39 H locs hv38 hz40 hf41 hS => ?_)
              obtain ⟨rfl, Wk, hW, hWk42, hM⟩ := hv38
              refine W.eq (g2 := F0 m 76 ls []) rfl ?_
              refine lv_aload_n hx hb d_M_bytes_76 rfl (lv_at hl 0 rfl) ?_
              refine lv_iload hx hb d_M_bytes_77 (lv_at hl 4 rfl) ?_
              refine z_callQ (va_runV (C := "ValueTreesModel") (As := [.int (nI nn)]) (rest := []) ⟨hx, hb, hml, hown, hts⟩ (c_M_putSize l D dT _ mm wd lf rt tc ty F sz Wk (([] : List Nat) ++ [10 % 256]) dg dc sh hM hW nn (by omega) (by (try simp only [List.length_append, List.length_cons, List.length_nil, size4_len]); omega)) ⟨callB_of 1 hts (gI gd_up gd_c q687) rfl rfl rfl (ht _ q10) (ht _ q684) hd_M_putSize ⟨Nat.le_of_ble_eq_true rfl, Nat.le_of_ble_eq_true rfl⟩, ht _ q686, ht _ qs32⟩ (z_preV hK (va_recv hK.1 hM.1 (ci := 10) (q0 := 0) rfl rfl)) rfl rfl hl.1 rfl (lv_room (Nat.le_of_ble_eq_true rfl)) d_M_bytes_79 ⟨Nat.le_refl _, Nat.le_refl _⟩) hS (fun _ h9 => h9) (fun v44 H locs hv43 hz45 hf46 hS => ?_)
              obtain ⟨rfl, Wk, hW, hWk47, hM⟩ := hv43
              refine W.eq (g2 := F0 m 82 ls []) rfl ?_
              refine lv_iconst (v := 0) hx hb d_M_bytes_82 (by decide) ?_
              refine lv_istore (lv' := [(6, .int 0), (0, .ref (mm 0)), (1, .int (nI j)), (2, .int (nI kt)), (3, .long x), (5, .int (nI nn))]) hx hb d_M_bytes_83 hl (by decide) rfl (fun ls hl => ?_)
              have hW : wAt Wk (([] : List Nat) ++ [10 % 256] ++ size4 nn ++ (rser cx).take 0) := by rw [List.take_zero, List.append_nil]; exact hW
              have hM : mAt D dT mm wd lf rt tc ty F sz Wk ((([] : List Nat) ++ [10 % 256] ++ size4 nn ++ (rser cx).take 0).length) dg dc sh H := by rw [List.take_zero, List.append_nil]; exact hM
              have loop48 : ∀ (n859 : Nat) (i : Nat), (i ≤ nn) → nn - i < n859 → ∀ (H : Heap) (locs : List Loc) (Wk : Nat → Nat), (wAt Wk (([] : List Nat) ++ [10 % 256] ++ size4 nn ++ (rser cx).take i)) → mAt D dT mm wd lf rt tc ty F sz Wk ((([] : List Nat) ++ [10 % 256] ++ size4 nn ++ (rser cx).take i).length) dg dc sh H → va_S (mA mm) s.heap H locs → ∀ (ls : Array Slot), lv_has ls 7 [(6, .int (nI i)), (0, .ref (mm 0)), (1, .int (nI j)), (2, .int (nI kt)), (3, .long x), (5, .int (nI nn))] → W p l e (headSpec w_M_bytes ({ frames := 3, cells := 0, slots := 0, locals := 70 })).room s m [.ref (mm 0), .int (nI j), .int (nI kt), .long x, .int (nI nn)].toArray below meth c H locs 0 0 (MQ below (z_Q (mA mm) (fun v H1 => v = some (.int (kp RV (nI j) (o_bytes (nI kt) x (nI nn))).1) ∧ mI D dT mm tb tc (kp RV (nI j) (o_bytes (nI kt) x (nI nn))).2 H1)) [.ref (mm 0), .int (nI j), .int (nI kt), .long x, .int (nI nn)].toArray s 0 0 (mA mm)) (F0 m 85 ls []) := by
                intro n859
                induction n859 with
                | zero =>
                  intro i hi h859
                  exact absurd h859 (Nat.not_lt_zero _)
                | succ n859 ih85 =>
                  intro i hi h859 H locs Wk hW hM hS ls hl
                  have htk : ((rser cx).take i).length = i := by rw [List.length_take]; omega
                  refine lv_iload hx hb d_M_bytes_85 (lv_at hl 0 rfl) ?_
                  refine lv_iload hx hb d_M_bytes_87 (lv_at hl 5 rfl) ?_
                  refine lv_icmp_ge (tgt := 114) hx hb d_M_bytes_89 (by decide) (fun c49 => ?_) (fun c49 => ?_)
                  · have nc49 : nn ≤ i := (nI_leI (a := nn) (b := i) (by omega) (by omega)).mp c49
                    have e9 : (rser cx).take i = rser cx := List.take_of_length_le (by omega)
                    rw [e9] at hW hM
                    refine lv_aload_n hx hb d_M_bytes_114 rfl (lv_at hl 1 rfl) ?_
                    refine lv_iload_n hx hb d_M_bytes_115 rfl (lv_at hl 2 rfl) ?_
                    refine lv_iload_n hx hb d_M_bytes_116 rfl (lv_at hl 3 rfl) ?_
                    have ebs : ([] : List Nat) ++ [10 % 256] ++ size4 nn ++ (rser cx) = cs (.pow (.natCast cx) kt) := (by show _ = ((if kt = 6 then 10 else 1) :: size4 (cx % 16)) ++ rser cx; rw [hc16, ekt]; rfl)
                    rw [ebs] at hW hM
                    refine z_callQ (va_runV (C := "ValueTreesModel") (As := [.int (nI j), .int (nI kt)]) (rest := []) ⟨hx, hb, hml, hown, hts⟩ (c_M_keep l D dT _ mm wd lf rt tc ty F sz Wk (cs (.pow (.natCast cx) kt)) dg dc sh hM hW j kt hj (by rw [← ebs]; simp only [List.length_append, List.length_cons, List.length_nil, size4_len]; omega)) ⟨callB_of 2 hts (gI gd_up gd_c q647) rfl rfl rfl (ht _ q10) (ht _ q644) hd_M_keep ⟨Nat.le_of_ble_eq_true rfl, Nat.le_of_ble_eq_true rfl⟩, ht _ q646, ht _ qs25⟩ (z_preV hK (va_recv hK.1 hM.1 (ci := 10) (q0 := 0) rfl rfl)) rfl rfl hl.1 rfl (lv_room (Nat.le_of_ble_eq_true rfl)) d_M_bytes_117 ⟨Nat.le_refl _, Nat.le_refl _⟩) hS (fun _ h9 => h9) (fun v51 H locs hv50 hz52 hf53 hS => ?_)
                    rcases hv50 with ⟨hk1, rfl, hM⟩ | ⟨hk1, rfl, hM⟩
                    · refine W.eq (g2 := F0 m 120 ls [.int (-2)]) rfl ?_
                      refine z_iretQ hx hb hr hlocks d_M_bytes_120 hS (Nat.le_refl _) (Nat.le_refl _) ?_
                      have eo := show o_bytes (nI kt) x (nI nn) = some (.pow (.natCast cx) kt) from (by rw [ecx]; exact by_o (by omega) hn8)
                      rw [eo]
                      exact kO_done ⟨_, _, _, _, _, hW.1, Or.inl ⟨hk1, rfl, hM⟩⟩ hO hT hR hj hkt ⟨rfl, rfl, rfl, by omega, by omega, by rw [hc16, hc17]; exact Nat.mod_lt _ (Nat.pow_pos (by decide))⟩
                    · refine W.eq (g2 := F0 m 120 ls [.int (nI (cs (.pow (.natCast cx) kt)).length)]) rfl ?_
                      refine z_iretQ hx hb hr hlocks d_M_bytes_120 hS (Nat.le_refl _) (Nat.le_refl _) ?_
                      have eo := show o_bytes (nI kt) x (nI nn) = some (.pow (.natCast cx) kt) from (by rw [ecx]; exact by_o (by omega) hn8)
                      rw [eo]
                      exact kO_done ⟨_, _, _, _, _, hW.1, Or.inr ⟨hk1, rfl, hM⟩⟩ hO hT hR hj hkt ⟨rfl, rfl, rfl, by omega, by omega, by rw [hc16, hc17]; exact Nat.mod_lt _ (Nat.pow_pos (by decide))⟩
                  · have nc49 : ¬ nn ≤ i := fun h9 => c49 ((nI_leI (a := nn) (b := i) (by omega) (by omega)).mpr h9)
                    refine lv_aload_n hx hb d_M_bytes_92 rfl (lv_at hl 1 rfl) ?_
                    refine lv_lload_n hx hb d_M_bytes_93 rfl (lv_at hl 4 rfl) ?_
                    refine lv_bipush (v := 8) hx hb d_M_bytes_94 (by decide) ?_
                    refine lv_iload hx hb d_M_bytes_96 (lv_at hl 0 rfl) ?_
                    refine lv_imul hx hb d_M_bytes_98 ?_
                    rw [show ((8 * (nI i)) : Int32) = nI (8 * i) from pk_mul 8 i]
                    refine lv_lshr (v := (x >>> ((nI (8 * i)).toInt64 &&& 63))) hx hb d_M_bytes_99 rfl ?_
                    refine lv_ldc2 (v := 255) hx hb hown (hts (.constantLong "ValueTreesModel" 134 255) (by decide +kernel)) d_M_bytes_100 ?_
                    refine lv_land hx hb d_M_bytes_103 ?_
                    refine lv_l2i (v := ((x >>> ((nI (8 * i)).toInt64 &&& 63)) &&& 255).toInt32) hx hb d_M_bytes_104 rfl ?_
                    rw [lbyte x (by omega)]
                    refine z_callQ (va_runV (C := "ValueTreesModel") (As := [.int (nI (x.toUInt64.toNat / 256 ^ i % 256))]) (rest := []) ⟨hx, hb, hml, hown, hts⟩ (c_M_lay l D dT _ mm wd lf rt tc ty F sz Wk (([] : List Nat) ++ [10 % 256] ++ size4 nn ++ (rser cx).take i) dg dc sh hM hW (x.toUInt64.toNat / 256 ^ i % 256) (by (try simp only [List.length_append, List.length_cons, List.length_nil, size4_len]); omega)) ⟨callB_of 1 hts (gI gd_up gd_c q635) rfl rfl rfl (ht _ q10) (ht _ q632) hd_M_lay ⟨Nat.le_of_ble_eq_true rfl, Nat.le_of_ble_eq_true rfl⟩, ht _ q634, ht _ qs22⟩ (z_preV hK (va_recv hK.1 hM.1 (ci := 10) (q0 := 0) rfl rfl)) rfl rfl hl.1 rfl (lv_room (Nat.le_of_ble_eq_true rfl)) d_M_bytes_105 ⟨Nat.le_refl _, Nat.le_refl _⟩) hS (fun _ h9 => h9) (fun v55 H locs hv54 hz56 hf57 hS => ?_)
                    obtain ⟨rfl, Wk, hW, hWk58, hM⟩ := hv54
                    refine W.eq (g2 := F0 m 108 ls []) rfl ?_
                    refine lv_iinc (v := (nI (i + 1))) (lv' := [(6, .int (nI (i + 1))), (0, .ref (mm 0)), (1, .int (nI j)), (2, .int (nI kt)), (3, .long x), (5, .int (nI nn))]) hx hb d_M_bytes_108 hl (k := 0) rfl (nI_1 i) (by decide) rfl (fun ls hl => ?_)
                    refine lv_goto (tgt := 85) hx hb d_M_bytes_111 (by decide) ?_
                    have e9 := tk_app (bs := ([] : List Nat) ++ [10 % 256] ++ size4 nn) (bx := rser cx) (i := i) (x := x.toUInt64.toNat / 256 ^ i % 256) (by omega) (by rw [hby i (by omega)]; omega)
                    rw [e9] at hW hM
                    exact ih85 (i + 1) (by omega) (by omega) _ _ Wk hW hM hS ls (lv_sub hl [0, 1, 2, 3, 4, 5] rfl)
              exact loop48 (nn + 1) 0 (by omega) (by omega) _ _ Wk hW hM hS ls (lv_sub hl [0, 1, 2, 3, 4, 5] rfl)
            · refine lv_iconst (v := (-1)) hx hb d_M_bytes_48 (by decide) ?_
              refine z_iretQ hx hb hr hlocks d_M_bytes_49 hS (Nat.le_refl _) (Nat.le_refl _) ?_
              have eo : o_bytes (nI kt) x n = none := by_n (Or.inr (Int32.not_le.mp c36))
              rw [eo]
              exact ⟨rfl, _, _, _, _, _, _, _, _, _, _, _, hM, hO, hT, hR, hWk⟩
    · rw [if_neg hq7] at hv5
      subst hv5
      refine lv_if_eq (tgt := 48) hx hb d_M_bytes_12 (by decide) (fun _ => ?_) (fun c59 => absurd c59 (by decide))
      refine lv_iconst (v := (-1)) hx hb d_M_bytes_48 (by decide) ?_
      refine z_iretQ hx hb hr hlocks d_M_bytes_49 hS (Nat.le_refl _) (Nat.le_refl _) ?_
      have eo : o_bytes t x n = none := by_t hq7 htc10 htc
      rw [eo]
      exact ⟨rfl, _, _, _, _, _, _, _, _, _, _, _, hM, hO, hT, hR, hWk⟩
  · rw [if_neg hq3] at hv1
    subst hv1
    refine lv_if_eq (tgt := 48) hx hb d_M_bytes_4 (by decide) (fun _ => ?_) (fun c60 => absurd c60 (by decide))
    refine lv_iconst (v := (-1)) hx hb d_M_bytes_48 (by decide) ?_
    refine z_iretQ hx hb hr hlocks d_M_bytes_49 hS (Nat.le_refl _) (Nat.le_refl _) ?_
    rw [kp_out hq3]
    exact ⟨rfl, _, _, _, _, _, _, _, _, _, _, _, hM, hO, hT, hR, hWk⟩
abbrev b_M_number : ByteArray := prog_12_method_32_code
abbrev y_M_number : MethodName := ⟨"ValueTreesModel", "number", "(IIJ)I"⟩
abbrev w_M_number : List Cond := .code y_M_number b_M_number 9 (Option.some .int) :: gt
theorem hd_M_number : (y_M_number).cls ≠ "java/lang/invoke/MethodHandle" ∧ (y_M_number).cls ≠ "java/lang/invoke/VarHandle" ∧ (parseMethodDescriptor (y_M_number).desc).map (fun d => d.parameters.length) = some 3 := by decide +kernel
theorem d_M_number_0 : decode b_M_number 0 = .ok (.iload_n 1, 1) := by decide +kernel
theorem d_M_number_1 : decode b_M_number 1 = .ok (.invokestatic 66, 3) := by decide +kernel
theorem d_M_number_4 : decode b_M_number 4 = .ok (.ifCond .eq 27, 3) := by decide +kernel
theorem d_M_number_7 : decode b_M_number 7 = .ok (.aload_n 0, 1) := by decide +kernel
theorem d_M_number_8 : decode b_M_number 8 = .ok (.iload_n 2, 1) := by decide +kernel
theorem d_M_number_9 : decode b_M_number 9 = .ok (.invokevirtual 60, 3) := by decide +kernel
theorem d_M_number_12 : decode b_M_number 12 = .ok (.ifCond .eq 19, 3) := by decide +kernel
theorem d_M_number_15 : decode b_M_number 15 = .ok (.aload_n 0, 1) := by decide +kernel
theorem d_M_number_16 : decode b_M_number 16 = .ok (.getfield 7, 3) := by decide +kernel
theorem d_M_number_19 : decode b_M_number 19 = .ok (.iload_n 2, 1) := by decide +kernel
theorem d_M_number_20 : decode b_M_number 20 = .ok (.iaload, 1) := by decide +kernel
theorem d_M_number_21 : decode b_M_number 21 = .ok (.invokestatic 75, 3) := by decide +kernel
theorem d_M_number_24 : decode b_M_number 24 = .ok (.ifCond .eq 7, 3) := by decide +kernel
theorem d_M_number_27 : decode b_M_number 27 = .ok (.iconst 1, 1) := by decide +kernel
theorem d_M_number_28 : decode b_M_number 28 = .ok (.goto 4, 3) := by decide +kernel
theorem d_M_number_31 : decode b_M_number 31 = .ok (.iconst 0, 1) := by decide +kernel
theorem d_M_number_32 : decode b_M_number 32 = .ok (.istore 5, 2) := by decide +kernel
theorem d_M_number_34 : decode b_M_number 34 = .ok (.iload 5, 2) := by decide +kernel
theorem d_M_number_36 : decode b_M_number 36 = .ok (.ifCond .eq 29, 3) := by decide +kernel
theorem d_M_number_39 : decode b_M_number 39 = .ok (.lload_n 3, 1) := by decide +kernel
theorem d_M_number_40 : decode b_M_number 40 = .ok (.lconst 0, 1) := by decide +kernel
theorem d_M_number_41 : decode b_M_number 41 = .ok (.lcmp, 1) := by decide +kernel
theorem d_M_number_42 : decode b_M_number 42 = .ok (.ifCond .ge 25, 3) := by decide +kernel
theorem d_M_number_45 : decode b_M_number 45 = .ok (.aload_n 0, 1) := by decide +kernel
theorem d_M_number_46 : decode b_M_number 46 = .ok (.getfield 7, 3) := by decide +kernel
theorem d_M_number_49 : decode b_M_number 49 = .ok (.iload_n 2, 1) := by decide +kernel
theorem d_M_number_50 : decode b_M_number 50 = .ok (.iaload, 1) := by decide +kernel
theorem d_M_number_51 : decode b_M_number 51 = .ok (.iconst 3, 1) := by decide +kernel
theorem d_M_number_52 : decode b_M_number 52 = .ok (.if_icmp .eq 13, 3) := by decide +kernel
theorem d_M_number_55 : decode b_M_number 55 = .ok (.aload_n 0, 1) := by decide +kernel
theorem d_M_number_56 : decode b_M_number 56 = .ok (.getfield 7, 3) := by decide +kernel
theorem d_M_number_59 : decode b_M_number 59 = .ok (.iload_n 2, 1) := by decide +kernel
theorem d_M_number_60 : decode b_M_number 60 = .ok (.iaload, 1) := by decide +kernel
theorem d_M_number_61 : decode b_M_number 61 = .ok (.iconst 4, 1) := by decide +kernel
theorem d_M_number_62 : decode b_M_number 62 = .ok (.if_icmp .ne 5, 3) := by decide +kernel
theorem d_M_number_65 : decode b_M_number 65 = .ok (.iconst (-1), 1) := by decide +kernel
theorem d_M_number_66 : decode b_M_number 66 = .ok (.ireturn, 1) := by decide +kernel
theorem d_M_number_67 : decode b_M_number 67 = .ok (.aload_n 0, 1) := by decide +kernel
theorem d_M_number_68 : decode b_M_number 68 = .ok (.iconst 0, 1) := by decide +kernel
theorem d_M_number_69 : decode b_M_number 69 = .ok (.putfield 85, 3) := by decide +kernel
theorem d_M_number_72 : decode b_M_number 72 = .ok (.lload_n 3, 1) := by decide +kernel
theorem d_M_number_73 : decode b_M_number 73 = .ok (.lstore 6, 2) := by decide +kernel
theorem d_M_number_75 : decode b_M_number 75 = .ok (.lload 6, 2) := by decide +kernel
theorem d_M_number_77 : decode b_M_number 77 = .ok (.lconst 0, 1) := by decide +kernel
theorem d_M_number_78 : decode b_M_number 78 = .ok (.lcmp, 1) := by decide +kernel
theorem d_M_number_79 : decode b_M_number 79 = .ok (.ifCond .eq 55, 3) := by decide +kernel
theorem d_M_number_82 : decode b_M_number 82 = .ok (.lload 6, 2) := by decide +kernel
theorem d_M_number_84 : decode b_M_number 84 = .ok (.ldc2_w 115, 3) := by decide +kernel
theorem d_M_number_87 : decode b_M_number 87 = .ok (.lrem, 1) := by decide +kernel
theorem d_M_number_88 : decode b_M_number 88 = .ok (.l2i, 1) := by decide +kernel
theorem d_M_number_89 : decode b_M_number 89 = .ok (.istore 8, 2) := by decide +kernel
theorem d_M_number_91 : decode b_M_number 91 = .ok (.aload_n 0, 1) := by decide +kernel
theorem d_M_number_92 : decode b_M_number 92 = .ok (.getfield 32, 3) := by decide +kernel
theorem d_M_number_95 : decode b_M_number 95 = .ok (.aload_n 0, 1) := by decide +kernel
theorem d_M_number_96 : decode b_M_number 96 = .ok (.getfield 85, 3) := by decide +kernel
theorem d_M_number_99 : decode b_M_number 99 = .ok (.iload 8, 2) := by decide +kernel
theorem d_M_number_101 : decode b_M_number 101 = .ok (.ifCond .ge 9, 3) := by decide +kernel
theorem d_M_number_104 : decode b_M_number 104 = .ok (.iload 8, 2) := by decide +kernel
theorem d_M_number_106 : decode b_M_number 106 = .ok (.ineg, 1) := by decide +kernel
theorem d_M_number_107 : decode b_M_number 107 = .ok (.goto 5, 3) := by decide +kernel
theorem d_M_number_110 : decode b_M_number 110 = .ok (.iload 8, 2) := by decide +kernel
theorem d_M_number_112 : decode b_M_number 112 = .ok (.iastore, 1) := by decide +kernel
theorem d_M_number_113 : decode b_M_number 113 = .ok (.aload_n 0, 1) := by decide +kernel
theorem d_M_number_114 : decode b_M_number 114 = .ok (.dup, 1) := by decide +kernel
theorem d_M_number_115 : decode b_M_number 115 = .ok (.getfield 85, 3) := by decide +kernel
theorem d_M_number_118 : decode b_M_number 118 = .ok (.iconst 1, 1) := by decide +kernel
theorem d_M_number_119 : decode b_M_number 119 = .ok (.iadd, 1) := by decide +kernel
theorem d_M_number_120 : decode b_M_number 120 = .ok (.putfield 85, 3) := by decide +kernel
theorem d_M_number_123 : decode b_M_number 123 = .ok (.lload 6, 2) := by decide +kernel
theorem d_M_number_125 : decode b_M_number 125 = .ok (.ldc2_w 115, 3) := by decide +kernel
theorem d_M_number_128 : decode b_M_number 128 = .ok (.ldiv, 1) := by decide +kernel
theorem d_M_number_129 : decode b_M_number 129 = .ok (.lstore 6, 2) := by decide +kernel
theorem d_M_number_131 : decode b_M_number 131 = .ok (.goto (-56), 3) := by decide +kernel
theorem d_M_number_134 : decode b_M_number 134 = .ok (.aload_n 0, 1) := by decide +kernel
theorem d_M_number_135 : decode b_M_number 135 = .ok (.iconst 0, 1) := by decide +kernel
theorem d_M_number_136 : decode b_M_number 136 = .ok (.putfield 98, 3) := by decide +kernel
theorem d_M_number_139 : decode b_M_number 139 = .ok (.aload_n 0, 1) := by decide +kernel
theorem d_M_number_140 : decode b_M_number 140 = .ok (.lload_n 3, 1) := by decide +kernel
theorem d_M_number_141 : decode b_M_number 141 = .ok (.lconst 0, 1) := by decide +kernel
theorem d_M_number_142 : decode b_M_number 142 = .ok (.lcmp, 1) := by decide +kernel
theorem d_M_number_143 : decode b_M_number 143 = .ok (.ifCond .ge 7, 3) := by decide +kernel
theorem d_M_number_146 : decode b_M_number 146 = .ok (.iconst 1, 1) := by decide +kernel
theorem d_M_number_147 : decode b_M_number 147 = .ok (.goto 4, 3) := by decide +kernel
theorem d_M_number_150 : decode b_M_number 150 = .ok (.iconst 0, 1) := by decide +kernel
theorem d_M_number_151 : decode b_M_number 151 = .ok (.invokevirtual 117, 3) := by decide +kernel
theorem d_M_number_154 : decode b_M_number 154 = .ok (.aload_n 0, 1) := by decide +kernel
theorem d_M_number_155 : decode b_M_number 155 = .ok (.iload_n 1, 1) := by decide +kernel
theorem d_M_number_156 : decode b_M_number 156 = .ok (.iload_n 2, 1) := by decide +kernel
theorem d_M_number_157 : decode b_M_number 157 = .ok (.invokevirtual 121, 3) := by decide +kernel
theorem d_M_number_160 : decode b_M_number 160 = .ok (.ireturn, 1) := by decide +kernel
set_option maxHeartbeats 4000000 in
set_option maxRecDepth 100000 in
theorem p_M_number (l : Launch) (D : va_G) (dT : Nat → ClassId) (H : Heap) (mm : Nat → Nat) (tb : Nat → TR) (tc : Nat) (RV : Nat → Option VT) (hI : mI D dT mm tb tc RV H) (r t : Int32) (x : Int64) : Met l y_M_number w_M_number ({ frames := 4, cells := 0, slots := 0, locals := 90 }) (z_P D dT [.ref (mm 0), .int r, .int t, .long x] H) (z_Q (mA mm) (fun v H1 => v = some (.int (kp RV r (o_number t x)).1) ∧ mI D dT mm tb tc (kp RV r (o_number t x)).2 H1)) 0 0 (mA mm) := by
  obtain ⟨wd, lf, rt, ty, F, sz, Wk, wz, dg, dc, sh, hM, hO, hT, hR, hWk⟩ := hI
  have hF := hR.1
  have htc := hO.1
  have htc10 := hO.2.1
  refine Met.ofW (cc := b_M_number) (maxL := 9) (ret := (Option.some .int)) (by decide) rfl ?_
  intro p e s m args below meth c s₁ B hml hv
  obtain ⟨rfl, rfl, hK⟩ := hv
  have hx := B.exec
  have hb := B.bytes
  have hr := B.returns
  have hts := atoms_spec (ws := w_M_number) B.pre
  have ht : ∀ w9 ∈ gt, w9.before [.ref (mm 0), .int r, .int t, .long x].toArray s = true := fun w9 h => hts w9 (List.mem_cons_of_mem _ h)
  have hown : s.vm.findClass "ValueTreesModel" = some m.cls := findClass_of_methodNamed B.named
  have hlocks := B.notSynchronized
  have hS : va_S (mA mm) s.heap s.heap [] := va_S.rf
  have hl := lv_entry ([.ref (mm 0), .int r, .int t, .long x]) (n := 9) (Nat.le_of_ble_eq_true rfl)
  rw [lg_entry_eq]
  generalize (lg_sl ([.ref (mm 0), .int r, .int t, .long x]) ++ List.replicate (9 - (lg_sl ([.ref (mm 0), .int r, .int t, .long x])).length) Slot.unset).toArray = ls at hl ⊢
  have hl : lv_has ls 9 [(0, .ref (mm 0)), (1, .int r), (2, .int t), (3, .long x)] := hl
  refine lv_iload_n hx hb d_M_number_0 rfl (lv_at hl 1 rfl) ?_
  refine z_callR (va_runS (As := [.int r]) (rest := []) ⟨hx, hb, hml, hown, hts⟩ (c_M_isRegister l D dT _ r) ⟨callB_of 1 hts (gI gd_up gd_c q619) rfl rfl rfl (ht _ q10) (ht _ q617) hd_M_isRegister ⟨Nat.le_of_ble_eq_true rfl, Nat.le_of_ble_eq_true rfl⟩, ht _ q618⟩ (z_preS hK) rfl rfl hl.1 rfl (lv_room (Nat.le_of_ble_eq_true rfl)) d_M_number_1 ⟨Nat.zero_le _, Nat.zero_le _⟩) (fun v2 hv1 => ?_)
  have hv1 : v2 = .int (if inR r then 1 else 0) := hv1
  rcases Classical.em (inR r) with hq3 | hq3
  · rw [if_pos hq3] at hv1
    subst hv1
    refine lv_if_eq (tgt := 31) hx hb d_M_number_4 (by decide) (fun c4 => absurd c4 (by decide)) (fun _ => ?_)
    obtain ⟨j, hj, rfl⟩ := inR_of hq3
    refine lv_aload_n hx hb d_M_number_7 rfl (lv_at hl 0 rfl) ?_
    refine lv_iload_n hx hb d_M_number_8 rfl (lv_at hl 2 rfl) ?_
    refine z_callR (va_runV (C := "ValueTreesModel") (As := [.int t]) (rest := []) ⟨hx, hb, hml, hown, hts⟩ (c_M_isType l D dT _ mm wd lf rt tc ty F sz Wk wz dg dc sh hM t) ⟨callB_of 1 hts (gI gd_up gd_c q584) rfl rfl rfl (ht _ q10) (ht _ q581) hd_M_isType ⟨Nat.le_of_ble_eq_true rfl, Nat.le_of_ble_eq_true rfl⟩, ht _ q583, ht _ qs13⟩ (z_preV hK (va_recv hK.1 hM.1 (ci := 10) (q0 := 0) rfl rfl)) rfl rfl hl.1 rfl (lv_room (Nat.le_of_ble_eq_true rfl)) d_M_number_9 ⟨Nat.zero_le _, Nat.zero_le _⟩) (fun v6 hv5 => ?_)
    have hv5 : v6 = .int (if 0 ≤ t ∧ t < nI tc then 1 else 0) := hv5
    rcases Classical.em (0 ≤ t ∧ t < nI tc) with hq7 | hq7
    · rw [if_pos hq7] at hv5
      subst hv5
      refine lv_if_eq (tgt := 31) hx hb d_M_number_12 (by decide) (fun c8 => absurd c8 (by decide)) (fun _ => ?_)
      obtain ⟨kt, hkt, rfl⟩ := tN_of hq7 htc
      have ekt1 := (hT kt hkt).1
      have ekt2 := (hT kt hkt).2.1
      have ekt3 := (hT kt hkt).2.2
      have rkt1 := (hO.2.2 kt hkt).1
      have rkt2 := (hO.2.2 kt hkt).2.1
      refine lv_aload_n hx hb d_M_number_15 rfl (lv_at hl 0 rfl) ?_
      refine va_get (D := D) (ci := 10) (v := .ref (mm 1)) (C := "ValueTreesModel") (T := T_M) (N := 12) hx hb ht in_M hown hK.1 hM.1 0 rfl rfl 0 (by decide) (ht _ q539) (fun _ h9 => h9) rfl d_M_number_16 ?_
      refine lv_iload_n hx hb d_M_number_19 rfl (lv_at hl 2 rfl) ?_
      refine z_iald hx hb hK (hM.1 1 _ rfl) kt rfl (by omega) (by decide) d_M_number_20 ?_
      rw [ekt1]
      refine z_callR (va_runS (As := [.int (nI (tW (tb kt)))]) (rest := []) ⟨hx, hb, hml, hown, hts⟩ (c_M_isNumber l D dT _ (nI (tW (tb kt)))) ⟨callB_of 1 hts (gI gd_up gd_c q622) rfl rfl rfl (ht _ q10) (ht _ q620) hd_M_isNumber ⟨Nat.le_of_ble_eq_true rfl, Nat.le_of_ble_eq_true rfl⟩, ht _ q621⟩ (z_preS hK) rfl rfl hl.1 rfl (lv_room (Nat.le_of_ble_eq_true rfl)) d_M_number_21 ⟨Nat.zero_le _, Nat.zero_le _⟩) (fun v10 hv9 => ?_)
      have hv9 : v10 = .int (if isNum (nI (tW (tb kt))) then 1 else 0) := hv9
      rcases Classical.em (isNum (nI (tW (tb kt)))) with hq11 | hq11
      · rw [if_pos hq11] at hv9
        subst hv9
        refine lv_if_eq (tgt := 31) hx hb d_M_number_24 (by decide) (fun c12 => absurd c12 (by decide)) (fun _ => ?_)
        have hword := (isNum_nI (by omega)).mp hq11
        have ekt : tW (tb kt) = kt := rkt2 (by omega)
        refine lv_iconst (v := 1) hx hb d_M_number_27 (by decide) ?_
        refine lv_goto (tgt := 32) hx hb d_M_number_28 (by decide) ?_
        refine lv_istore (lv' := [(5, .int 1), (0, .ref (mm 0)), (1, .int (nI j)), (2, .int (nI kt)), (3, .long x)]) hx hb d_M_number_32 hl (by decide) rfl (fun ls hl => ?_)
        refine lv_iload hx hb d_M_number_34 (lv_at hl 0 rfl) ?_
        refine lv_if_eq (tgt := 65) hx hb d_M_number_36 (by decide) (fun c13 => absurd c13 (by decide)) (fun _ => ?_)
        rcases Classical.em (x < 0) with hneg | hneg
        · refine lv_lload_n hx hb d_M_number_39 rfl (lv_at hl 4 rfl) ?_
          refine lv_lconst (v := 0) hx hb d_M_number_40 (by decide) ?_
          refine z_lcmp hx hb d_M_number_41 ?_
          refine lv_if_ge (tgt := 67) hx hb d_M_number_42 (by decide) (fun c14 => absurd c14 (fun h9 => lc_ge.mp h9 hneg)) (fun c14 => ?_)
          refine lv_aload_n hx hb d_M_number_45 rfl (lv_at hl 1 rfl) ?_
          refine va_get (D := D) (ci := 10) (v := .ref (mm 1)) (C := "ValueTreesModel") (T := T_M) (N := 12) hx hb ht in_M hown hK.1 hM.1 0 rfl rfl 0 (by decide) (ht _ q539) (fun _ h9 => h9) rfl d_M_number_46 ?_
          refine lv_iload_n hx hb d_M_number_49 rfl (lv_at hl 3 rfl) ?_
          refine z_iald hx hb hK (hM.1 1 _ rfl) kt rfl (by omega) (by decide) d_M_number_50 ?_
          rw [ekt1]
          refine lv_iconst (v := 3) hx hb d_M_number_51 (by decide) ?_
          refine lv_icmp_eq (tgt := 65) hx hb d_M_number_52 (by decide) (fun c15 => ?_) (fun c15 => ?_)
          · have nc15 : (tW (tb kt)) = 3 := (nI_eq (a := (tW (tb kt))) (b := 3) (by omega) (by omega)).mp c15
            refine lv_iconst (v := (-1)) hx hb d_M_number_65 (by decide) ?_
            refine z_iretQ hx hb hr hlocks d_M_number_66 hS (Nat.le_refl _) (Nat.le_refl _) ?_
            have eo : o_number (nI kt) x = none := nu_n (by omega) hneg
            rw [eo]
            exact ⟨rfl, _, _, _, _, _, _, _, _, _, _, _, hM, hO, hT, hR, hWk⟩
          · have nc15 : ¬ (tW (tb kt)) = 3 := fun h9 => c15 ((nI_eq (a := (tW (tb kt))) (b := 3) (by omega) (by omega)).mpr h9)
            refine lv_aload_n hx hb d_M_number_55 rfl (lv_at hl 1 rfl) ?_
            refine va_get (D := D) (ci := 10) (v := .ref (mm 1)) (C := "ValueTreesModel") (T := T_M) (N := 12) hx hb ht in_M hown hK.1 hM.1 0 rfl rfl 0 (by decide) (ht _ q539) (fun _ h9 => h9) rfl d_M_number_56 ?_
            refine lv_iload_n hx hb d_M_number_59 rfl (lv_at hl 3 rfl) ?_
            refine z_iald hx hb hK (hM.1 1 _ rfl) kt rfl (by omega) (by decide) d_M_number_60 ?_
            rw [ekt1]
            refine lv_iconst (v := 4) hx hb d_M_number_61 (by decide) ?_
            refine lv_icmp_ne (tgt := 67) hx hb d_M_number_62 (by decide) (fun c16 => ?_) (fun c16 => ?_)
            · have nc16 : ¬ (tW (tb kt)) = 4 := fun h9 => c16 ((nI_eq (a := (tW (tb kt))) (b := 4) (by omega) (by omega)).mpr h9)
              have hz0 : x.toInt < 0 := by have h9 := hneg; rw [Int64.lt_iff_toInt_lt] at h9; exact h9
              obtain ⟨N, hN, hN9, hNx⟩ : ∃ N : Nat, N = x.toInt.natAbs ∧ N ≤ 9223372036854775808 ∧ x.toInt = -(N : Int) := ⟨x.toInt.natAbs, rfl, by have := x.le_toInt; have := x.toInt_lt; omega, by omega⟩
              have hk28 : kt = 2 ∨ kt = 8 := by omega
              refine lv_aload_n hx hb d_M_number_67 rfl (lv_at hl 1 rfl) ?_
              refine lv_iconst (v := 0) hx hb d_M_number_68 (by decide) ?_
              refine m_put_dc hx hb ht hown hK hM hS (ht _ q549) 0 rfl d_M_number_69 (fun H locs hM hS => ?_)
              have hM : mAt D dT mm wd lf rt tc ty F sz Wk wz dg 0 sh H := hM
              refine lv_lload_n hx hb d_M_number_72 rfl (lv_at hl 4 rfl) ?_
              refine lv_lstore (lv' := [(6, .long x), (5, .int 1), (0, .ref (mm 0)), (1, .int (nI j)), (2, .int (nI kt)), (3, .long x)]) hx hb d_M_number_73 hl (by decide) rfl (fun ls hl => ?_)
              have loop17 : ∀ (n759 : Nat) (k : Nat) (q : Int64), (k ≤ 4) → (q.toInt = -((N / 65536 ^ k : Nat) : Int)) → (k = 0 ∨ ¬ N / 65536 ^ (k - 1) = 0) → 4 - k < n759 → ∀ (H : Heap) (locs : List Loc) (dg : Nat → Nat), (∀ j, j < k → dg j = N / 65536 ^ j % 65536) → mAt D dT mm wd lf rt tc ty F sz Wk wz dg k sh H → va_S (mA mm) s.heap H locs → ∀ (ls : Array Slot), lv_has ls 9 [(6, .long q), (3, .long x), (0, .ref (mm 0)), (1, .int (nI j)), (2, .int (nI kt))] → W p l e (headSpec w_M_number ({ frames := 4, cells := 0, slots := 0, locals := 90 })).room s m [.ref (mm 0), .int (nI j), .int (nI kt), .long x].toArray below meth c H locs 0 0 (MQ below (z_Q (mA mm) (fun v H1 => v = some (.int (kp RV (nI j) (o_number (nI kt) x)).1) ∧ mI D dT mm tb tc (kp RV (nI j) (o_number (nI kt) x)).2 H1)) [.ref (mm 0), .int (nI j), .int (nI kt), .long x].toArray s 0 0 (mA mm)) (F0 m 75 ls []) := by
                intro n759
                induction n759 with
                | zero =>
                  intro k q hk4 hrest hlast h759
                  exact absurd h759 (Nat.not_lt_zero _)
                | succ n759 ih75 =>
                  intro k q hk4 hrest hlast h759 H locs dg hdig hM hS ls hl
                  refine lv_lload hx hb d_M_number_75 (lv_at hl 0 rfl) ?_
                  refine lv_lconst (v := 0) hx hb d_M_number_77 (by decide) ?_
                  refine z_lcmp hx hb d_M_number_78 ?_
                  refine lv_if_eq (tgt := 134) hx hb d_M_number_79 (by decide) (fun c18 => ?_) (fun c18 => ?_)
                  · have hz9 : N / 65536 ^ k = 0 := by have h9 := lc_eq.mp c18; rw [h9] at hrest; have h8 : ((0 : Int64)).toInt = 0 := rfl; omega
                    have hlt9 : N < 65536 ^ k := (Nat.div_eq_zero_iff_lt (Nat.pow_pos (by decide))).mp hz9
                    have hdv : dval dg k = x.toInt.natAbs := by rw [dig_dval hdig, Nat.mod_eq_of_lt hlt9, hN]
                    have hd : ∀ j, j < k → dg j < 65536 := fun j hj => by rw [hdig j hj]; exact Nat.mod_lt _ (by decide)
                    have hzz : x.toInt.natAbs < 2 ^ 1024 := by rw [← hN]; exact Nat.lt_of_le_of_lt hN9 (Nat.lt_of_lt_of_le (show 9223372036854775808 < 2 ^ 64 by decide) (Nat.pow_le_pow_right (by decide) (by decide)))
                    have htr : k = 0 ∨ dg (k - 1) ≠ 0 := by
                      rcases hlast with h9 | h9
                      · exact Or.inl h9
                      · rcases Nat.eq_zero_or_pos k with h8 | h8
                        · exact Or.inl h8
                        · right
                          rw [hdig (k - 1) (by omega)]
                          have h7 : N / 65536 ^ (k - 1) < 65536 := by
                            apply Nat.div_lt_of_lt_mul
                            rw [← Nat.pow_succ, show (k - 1).succ = k by omega]
                            exact hlt9
                          rw [Nat.mod_eq_of_lt h7]; exact h9
                    refine lv_aload_n hx hb d_M_number_134 rfl (lv_at hl 2 rfl) ?_
                    refine lv_iconst (v := 0) hx hb d_M_number_135 (by decide) ?_
                    refine m_put_wz hx hb ht hown hK hM hS (ht _ q547) 0 rfl d_M_number_136 (fun H locs hM hS => ?_)
                    have hM : mAt D dT mm wd lf rt tc ty F sz Wk 0 dg k sh H := hM
                    have hW : wAt Wk ([] : List Nat) := wAt_nil hWk
                    have hM : mAt D dT mm wd lf rt tc ty F sz Wk (([] : List Nat).length) dg k sh H := hM
                    refine lv_aload_n hx hb d_M_number_139 rfl (lv_at hl 2 rfl) ?_
                    refine lv_lload_n hx hb d_M_number_140 rfl (lv_at hl 1 rfl) ?_
                    refine lv_lconst (v := 0) hx hb d_M_number_141 (by decide) ?_
                    refine z_lcmp hx hb d_M_number_142 ?_
                    refine lv_if_ge (tgt := 150) hx hb d_M_number_143 (by decide) (fun c19 => absurd c19 (fun h9 => lc_ge.mp h9 hneg)) (fun c19 => ?_)
                    refine lv_iconst (v := 1) hx hb d_M_number_146 (by decide) ?_
                    refine lv_goto (tgt := 151) hx hb d_M_number_147 (by decide) ?_
                    refine W.eq (g2 := F0 m 151 ls [.int (if x.toInt < 0 then 1 else 0), .ref (mm 0)]) (by rw [if_pos hz0]) ?_
                    refine z_callQ (va_runV (C := "ValueTreesModel") (As := [.int (if x.toInt < 0 then 1 else 0)]) (rest := []) ⟨hx, hb, hml, hown, hts⟩ (c_M_putNumber l D dT _ mm wd lf rt tc ty F sz Wk ([] : List Nat) dg k sh hM hW hd (by omega) x.toInt hzz hdv htr (by decide)) ⟨callB_of 1 hts (gI gd_up gd_c q627) rfl rfl rfl (ht _ q10) (ht _ q624) hd_M_putNumber ⟨Nat.le_of_ble_eq_true rfl, Nat.le_of_ble_eq_true rfl⟩, ht _ q626, ht _ qs20⟩ (z_preV hK (va_recv hK.1 hM.1 (ci := 10) (q0 := 0) rfl rfl)) rfl rfl hl.1 rfl (lv_room (Nat.le_of_ble_eq_true rfl)) d_M_number_151 ⟨Nat.le_refl _, Nat.le_refl _⟩) hS (fun _ h9 => h9) (fun v21 H locs hv20 hz22 hf23 hS => ?_)
                    obtain ⟨rfl, Wk, hW, hM⟩ := hv20
                    refine W.eq (g2 := F0 m 154 ls []) rfl ?_
                    refine lv_aload_n hx hb d_M_number_154 rfl (lv_at hl 2 rfl) ?_
                    refine lv_iload_n hx hb d_M_number_155 rfl (lv_at hl 3 rfl) ?_
                    refine lv_iload_n hx hb d_M_number_156 rfl (lv_at hl 4 rfl) ?_
                    have ebs : ([] : List Nat) ++ (0 :: nser x.toInt) = cs (.pow (.num x.toInt) kt) := rfl
                    rw [ebs] at hW hM
                    refine z_callQ (va_runV (C := "ValueTreesModel") (As := [.int (nI j), .int (nI kt)]) (rest := []) ⟨hx, hb, hml, hown, hts⟩ (c_M_keep l D dT _ mm wd lf rt tc ty F sz Wk (cs (.pow (.num x.toInt) kt)) dg k sh hM hW j kt hj (by rw [← ebs]; have h9 := nser_len x.toInt; have h8 := nb_lt.mpr hzz; simp only [List.length_append, List.length_cons, List.length_nil, size4_len]; omega)) ⟨callB_of 2 hts (gI gd_up gd_c q647) rfl rfl rfl (ht _ q10) (ht _ q644) hd_M_keep ⟨Nat.le_of_ble_eq_true rfl, Nat.le_of_ble_eq_true rfl⟩, ht _ q646, ht _ qs25⟩ (z_preV hK (va_recv hK.1 hM.1 (ci := 10) (q0 := 0) rfl rfl)) rfl rfl hl.1 rfl (lv_room (Nat.le_of_ble_eq_true rfl)) d_M_number_157 ⟨Nat.le_refl _, Nat.le_refl _⟩) hS (fun _ h9 => h9) (fun v25 H locs hv24 hz26 hf27 hS => ?_)
                    rcases hv24 with ⟨hk1, rfl, hM⟩ | ⟨hk1, rfl, hM⟩
                    · refine W.eq (g2 := F0 m 160 ls [.int (-2)]) rfl ?_
                      refine z_iretQ hx hb hr hlocks d_M_number_160 hS (Nat.le_refl _) (Nat.le_refl _) ?_
                      have eo := show o_number (nI kt) x = some (.pow (.num x.toInt) kt) from nu_o (by omega) (fun _ => hk28)
                      rw [eo]
                      exact kO_done ⟨_, _, _, _, _, hW.1, Or.inl ⟨hk1, rfl, hM⟩⟩ hO hT hR hj hkt ⟨rfl, rfl, rfl, hword, hzz, by omega, by have := x.toInt_lt; omega⟩
                    · refine W.eq (g2 := F0 m 160 ls [.int (nI (cs (.pow (.num x.toInt) kt)).length)]) rfl ?_
                      refine z_iretQ hx hb hr hlocks d_M_number_160 hS (Nat.le_refl _) (Nat.le_refl _) ?_
                      have eo := show o_number (nI kt) x = some (.pow (.num x.toInt) kt) from nu_o (by omega) (fun _ => hk28)
                      rw [eo]
                      exact kO_done ⟨_, _, _, _, _, hW.1, Or.inr ⟨hk1, rfl, hM⟩⟩ hO hT hR hj hkt ⟨rfl, rfl, rfl, hword, hzz, by omega, by have := x.toInt_lt; omega⟩
                  · have hne : ¬ N / 65536 ^ k = 0 := fun h9 => c18 (lc_eq.mpr (Int64.toInt_inj.mp (by rw [hrest, h9]; rfl)))
                    have hk3 := num_4 hN9 hne hk4
                    refine lv_lload hx hb d_M_number_82 (lv_at hl 0 rfl) ?_
                    refine lv_ldc2 (v := 65536) hx hb hown (hts (.constantLong "ValueTreesModel" 115 65536) (by decide +kernel)) d_M_number_84 ?_
                    refine lv_lrem hx hb d_M_number_87 (by decide) ?_
                    refine lv_l2i (v := (q - q / 65536 * 65536).toInt32) hx hb d_M_number_88 rfl ?_
                    rw [(num_neg hrest).1]
                    refine lv_istore (lv' := [(8, .int (-(nI (N / 65536 ^ k % 65536)))), (6, .long q), (3, .long x), (0, .ref (mm 0)), (1, .int (nI j)), (2, .int (nI kt))]) hx hb d_M_number_89 hl (by decide) rfl (fun ls hl => ?_)
                    refine lv_aload_n hx hb d_M_number_91 rfl (lv_at hl 3 rfl) ?_
                    refine va_get (D := D) (ci := 10) (v := .ref (mm 8)) (C := "ValueTreesModel") (T := T_M) (N := 12) hx hb ht in_M hown hK.1 hM.1 0 rfl rfl 9 (by decide) (ht _ q548) (fun _ h9 => h9) rfl d_M_number_92 ?_
                    refine lv_aload_n hx hb d_M_number_95 rfl (lv_at hl 3 rfl) ?_
                    refine va_get (D := D) (ci := 10) (v := .int (nI k)) (C := "ValueTreesModel") (T := T_M) (N := 12) hx hb ht in_M hown hK.1 hM.1 0 rfl rfl 10 (by decide) (ht _ q549) (fun _ h9 => h9) rfl d_M_number_96 ?_
                    refine lv_iload hx hb d_M_number_99 (lv_at hl 0 rfl) ?_
                    refine lv_if_ge (tgt := 110) hx hb d_M_number_101 (by decide) (fun c28 => ?_) (fun c28 => ?_)
                    · refine lv_iload hx hb d_M_number_110 (lv_at hl 0 rfl) ?_
                      refine m_ast_dg hx hb hK hM hS k rfl (by omega) (N / 65536 ^ k % 65536) (neg_0 (by omega) c28) d_M_number_112 (fun H locs hM hS => ?_)
                      have hM : mAt D dT mm wd lf rt tc ty F sz Wk wz (updN dg k (N / 65536 ^ k % 65536)) k sh H := hM
                      refine lv_aload_n hx hb d_M_number_113 rfl (lv_at hl 3 rfl) ?_
                      refine lv_dup hx hb d_M_number_114 rfl ?_
                      refine va_get (D := D) (ci := 10) (v := .int (nI k)) (C := "ValueTreesModel") (T := T_M) (N := 12) hx hb ht in_M hown hK.1 hM.1 0 rfl rfl 10 (by decide) (ht _ q549) (fun _ h9 => h9) rfl d_M_number_115 ?_
                      refine lv_iconst (v := 1) hx hb d_M_number_118 (by decide) ?_
                      refine lv_iadd hx hb d_M_number_119 ?_
                      rw [show (((nI k) + 1) : Int32) = nI (k + 1) from nI_add k 1]
                      refine m_put_dc hx hb ht hown hK hM hS (ht _ q549) (k + 1) rfl d_M_number_120 (fun H locs hM hS => ?_)
                      have hM : mAt D dT mm wd lf rt tc ty F sz Wk wz (updN dg k (N / 65536 ^ k % 65536)) (k + 1) sh H := hM
                      refine lv_lload hx hb d_M_number_123 (lv_at hl 1 rfl) ?_
                      refine lv_ldc2 (v := 65536) hx hb hown (hts (.constantLong "ValueTreesModel" 115 65536) (by decide +kernel)) d_M_number_125 ?_
                      refine lv_ldiv hx hb d_M_number_128 (by decide) ?_
                      refine lv_lstore (lv' := [(6, .long (q / 65536)), (8, .int (-(nI (N / 65536 ^ k % 65536)))), (3, .long x), (0, .ref (mm 0)), (1, .int (nI j)), (2, .int (nI kt))]) hx hb d_M_number_129 hl (by decide) rfl (fun ls hl => ?_)
                      refine lv_goto (tgt := 75) hx hb d_M_number_131 (by decide) ?_
                      exact ih75 (k + 1) (q / 65536) (by omega) (by rw [(num_neg hrest).2, Nat.pow_succ, ← Nat.div_div_eq_div_mul]) (Or.inr (by rw [Nat.add_sub_cancel]; exact hne)) (by omega) _ _ _ (dig_step hdig) hM hS ls (lv_sub hl [0, 2, 3, 4, 5] rfl)
                    · refine lv_iload hx hb d_M_number_104 (lv_at hl 0 rfl) ?_
                      refine lv_ineg hx hb d_M_number_106 ?_
                      refine lv_goto (tgt := 112) hx hb d_M_number_107 (by decide) ?_
                      refine m_ast_dg hx hb hK hM hS k rfl (by omega) (N / 65536 ^ k % 65536) (Int32.neg_neg) d_M_number_112 (fun H locs hM hS => ?_)
                      have hM : mAt D dT mm wd lf rt tc ty F sz Wk wz (updN dg k (N / 65536 ^ k % 65536)) k sh H := hM
                      refine lv_aload_n hx hb d_M_number_113 rfl (lv_at hl 3 rfl) ?_
                      refine lv_dup hx hb d_M_number_114 rfl ?_
                      refine va_get (D := D) (ci := 10) (v := .int (nI k)) (C := "ValueTreesModel") (T := T_M) (N := 12) hx hb ht in_M hown hK.1 hM.1 0 rfl rfl 10 (by decide) (ht _ q549) (fun _ h9 => h9) rfl d_M_number_115 ?_
                      refine lv_iconst (v := 1) hx hb d_M_number_118 (by decide) ?_
                      refine lv_iadd hx hb d_M_number_119 ?_
                      rw [show (((nI k) + 1) : Int32) = nI (k + 1) from nI_add k 1]
                      refine m_put_dc hx hb ht hown hK hM hS (ht _ q549) (k + 1) rfl d_M_number_120 (fun H locs hM hS => ?_)
                      have hM : mAt D dT mm wd lf rt tc ty F sz Wk wz (updN dg k (N / 65536 ^ k % 65536)) (k + 1) sh H := hM
                      refine lv_lload hx hb d_M_number_123 (lv_at hl 1 rfl) ?_
                      refine lv_ldc2 (v := 65536) hx hb hown (hts (.constantLong "ValueTreesModel" 115 65536) (by decide +kernel)) d_M_number_125 ?_
                      refine lv_ldiv hx hb d_M_number_128 (by decide) ?_
                      refine lv_lstore (lv' := [(6, .long (q / 65536)), (8, .int (-(nI (N / 65536 ^ k % 65536)))), (3, .long x), (0, .ref (mm 0)), (1, .int (nI j)), (2, .int (nI kt))]) hx hb d_M_number_129 hl (by decide) rfl (fun ls hl => ?_)
                      refine lv_goto (tgt := 75) hx hb d_M_number_131 (by decide) ?_
                      exact ih75 (k + 1) (q / 65536) (by omega) (by rw [(num_neg hrest).2, Nat.pow_succ, ← Nat.div_div_eq_div_mul]) (Or.inr (by rw [Nat.add_sub_cancel]; exact hne)) (by omega) _ _ _ (dig_step hdig) hM hS ls (lv_sub hl [0, 2, 3, 4, 5] rfl)
              exact loop17 5 0 x (by omega) (by rw [hNx, Nat.pow_zero, Nat.div_one]) (Or.inl rfl) (by omega) _ _ dg (fun j hj => absurd hj (Nat.not_lt_zero j)) hM hS ls (lv_sub hl [0, 5, 2, 3, 4] rfl)
            · have nc16 : (tW (tb kt)) = 4 := (nI_eq (a := (tW (tb kt))) (b := 4) (by omega) (by omega)).mp c16
              refine lv_iconst (v := (-1)) hx hb d_M_number_65 (by decide) ?_
              refine z_iretQ hx hb hr hlocks d_M_number_66 hS (Nat.le_refl _) (Nat.le_refl _) ?_
              have eo : o_number (nI kt) x = none := nu_n (by omega) hneg
              rw [eo]
              exact ⟨rfl, _, _, _, _, _, _, _, _, _, _, _, hM, hO, hT, hR, hWk⟩
        · refine lv_lload_n hx hb d_M_number_39 rfl (lv_at hl 4 rfl) ?_
          refine lv_lconst (v := 0) hx hb d_M_number_40 (by decide) ?_
          refine z_lcmp hx hb d_M_number_41 ?_
          refine lv_if_ge (tgt := 67) hx hb d_M_number_42 (by decide) (fun c29 => ?_) (fun c29 => absurd (lc_ge.mpr hneg) c29)
          have hz0 : ¬ x.toInt < 0 := by have h9 := hneg; rw [Int64.lt_iff_toInt_lt] at h9; exact h9
          obtain ⟨N, hN, hN9, hNx⟩ : ∃ N : Nat, N = x.toInt.natAbs ∧ N ≤ 9223372036854775808 ∧ x.toInt = (N : Int) := ⟨x.toInt.natAbs, rfl, by have := x.le_toInt; have := x.toInt_lt; omega, by omega⟩
          refine lv_aload_n hx hb d_M_number_67 rfl (lv_at hl 1 rfl) ?_
          refine lv_iconst (v := 0) hx hb d_M_number_68 (by decide) ?_
          refine m_put_dc hx hb ht hown hK hM hS (ht _ q549) 0 rfl d_M_number_69 (fun H locs hM hS => ?_)
          have hM : mAt D dT mm wd lf rt tc ty F sz Wk wz dg 0 sh H := hM
          refine lv_lload_n hx hb d_M_number_72 rfl (lv_at hl 4 rfl) ?_
          refine lv_lstore (lv' := [(6, .long x), (5, .int 1), (0, .ref (mm 0)), (1, .int (nI j)), (2, .int (nI kt)), (3, .long x)]) hx hb d_M_number_73 hl (by decide) rfl (fun ls hl => ?_)
          have loop30 : ∀ (n759 : Nat) (k : Nat) (q : Int64), (k ≤ 4) → (q.toInt = ((N / 65536 ^ k : Nat) : Int)) → (k = 0 ∨ ¬ N / 65536 ^ (k - 1) = 0) → 4 - k < n759 → ∀ (H : Heap) (locs : List Loc) (dg : Nat → Nat), (∀ j, j < k → dg j = N / 65536 ^ j % 65536) → mAt D dT mm wd lf rt tc ty F sz Wk wz dg k sh H → va_S (mA mm) s.heap H locs → ∀ (ls : Array Slot), lv_has ls 9 [(6, .long q), (3, .long x), (0, .ref (mm 0)), (1, .int (nI j)), (2, .int (nI kt))] → W p l e (headSpec w_M_number ({ frames := 4, cells := 0, slots := 0, locals := 90 })).room s m [.ref (mm 0), .int (nI j), .int (nI kt), .long x].toArray below meth c H locs 0 0 (MQ below (z_Q (mA mm) (fun v H1 => v = some (.int (kp RV (nI j) (o_number (nI kt) x)).1) ∧ mI D dT mm tb tc (kp RV (nI j) (o_number (nI kt) x)).2 H1)) [.ref (mm 0), .int (nI j), .int (nI kt), .long x].toArray s 0 0 (mA mm)) (F0 m 75 ls []) := by
            intro n759
            induction n759 with
            | zero =>
              intro k q hk4 hrest hlast h759
              exact absurd h759 (Nat.not_lt_zero _)
            | succ n759 ih75 =>
              intro k q hk4 hrest hlast h759 H locs dg hdig hM hS ls hl
              refine lv_lload hx hb d_M_number_75 (lv_at hl 0 rfl) ?_
              refine lv_lconst (v := 0) hx hb d_M_number_77 (by decide) ?_
              refine z_lcmp hx hb d_M_number_78 ?_
              refine lv_if_eq (tgt := 134) hx hb d_M_number_79 (by decide) (fun c31 => ?_) (fun c31 => ?_)
              · have hz9 : N / 65536 ^ k = 0 := by have h9 := lc_eq.mp c31; rw [h9] at hrest; have h8 : ((0 : Int64)).toInt = 0 := rfl; omega
                have hlt9 : N < 65536 ^ k := (Nat.div_eq_zero_iff_lt (Nat.pow_pos (by decide))).mp hz9
                have hdv : dval dg k = x.toInt.natAbs := by rw [dig_dval hdig, Nat.mod_eq_of_lt hlt9, hN]
                have hd : ∀ j, j < k → dg j < 65536 := fun j hj => by rw [hdig j hj]; exact Nat.mod_lt _ (by decide)
                have hzz : x.toInt.natAbs < 2 ^ 1024 := by rw [← hN]; exact Nat.lt_of_le_of_lt hN9 (Nat.lt_of_lt_of_le (show 9223372036854775808 < 2 ^ 64 by decide) (Nat.pow_le_pow_right (by decide) (by decide)))
                have htr : k = 0 ∨ dg (k - 1) ≠ 0 := by
                  rcases hlast with h9 | h9
                  · exact Or.inl h9
                  · rcases Nat.eq_zero_or_pos k with h8 | h8
                    · exact Or.inl h8
                    · right
                      rw [hdig (k - 1) (by omega)]
                      have h7 : N / 65536 ^ (k - 1) < 65536 := by
                        apply Nat.div_lt_of_lt_mul
                        rw [← Nat.pow_succ, show (k - 1).succ = k by omega]
                        exact hlt9
                      rw [Nat.mod_eq_of_lt h7]; exact h9
                refine lv_aload_n hx hb d_M_number_134 rfl (lv_at hl 2 rfl) ?_
                refine lv_iconst (v := 0) hx hb d_M_number_135 (by decide) ?_
                refine m_put_wz hx hb ht hown hK hM hS (ht _ q547) 0 rfl d_M_number_136 (fun H locs hM hS => ?_)
                have hM : mAt D dT mm wd lf rt tc ty F sz Wk 0 dg k sh H := hM
                have hW : wAt Wk ([] : List Nat) := wAt_nil hWk
                have hM : mAt D dT mm wd lf rt tc ty F sz Wk (([] : List Nat).length) dg k sh H := hM
                refine lv_aload_n hx hb d_M_number_139 rfl (lv_at hl 2 rfl) ?_
                refine lv_lload_n hx hb d_M_number_140 rfl (lv_at hl 1 rfl) ?_
                refine lv_lconst (v := 0) hx hb d_M_number_141 (by decide) ?_
                refine z_lcmp hx hb d_M_number_142 ?_
                refine lv_if_ge (tgt := 150) hx hb d_M_number_143 (by decide) (fun c32 => ?_) (fun c32 => absurd (lc_ge.mpr hneg) c32)
                refine lv_iconst (v := 0) hx hb d_M_number_150 (by decide) ?_
                refine W.eq (g2 := F0 m 151 ls [.int (if x.toInt < 0 then 1 else 0), .ref (mm 0)]) (by rw [if_neg hz0]) ?_
                refine z_callQ (va_runV (C := "ValueTreesModel") (As := [.int (if x.toInt < 0 then 1 else 0)]) (rest := []) ⟨hx, hb, hml, hown, hts⟩ (c_M_putNumber l D dT _ mm wd lf rt tc ty F sz Wk ([] : List Nat) dg k sh hM hW hd (by omega) x.toInt hzz hdv htr (by decide)) ⟨callB_of 1 hts (gI gd_up gd_c q627) rfl rfl rfl (ht _ q10) (ht _ q624) hd_M_putNumber ⟨Nat.le_of_ble_eq_true rfl, Nat.le_of_ble_eq_true rfl⟩, ht _ q626, ht _ qs20⟩ (z_preV hK (va_recv hK.1 hM.1 (ci := 10) (q0 := 0) rfl rfl)) rfl rfl hl.1 rfl (lv_room (Nat.le_of_ble_eq_true rfl)) d_M_number_151 ⟨Nat.le_refl _, Nat.le_refl _⟩) hS (fun _ h9 => h9) (fun v34 H locs hv33 hz35 hf36 hS => ?_)
                obtain ⟨rfl, Wk, hW, hM⟩ := hv33
                refine W.eq (g2 := F0 m 154 ls []) rfl ?_
                refine lv_aload_n hx hb d_M_number_154 rfl (lv_at hl 2 rfl) ?_
                refine lv_iload_n hx hb d_M_number_155 rfl (lv_at hl 3 rfl) ?_
                refine lv_iload_n hx hb d_M_number_156 rfl (lv_at hl 4 rfl) ?_
                have ebs : ([] : List Nat) ++ (0 :: nser x.toInt) = cs (.pow (.num x.toInt) kt) := rfl
                rw [ebs] at hW hM
                refine z_callQ (va_runV (C := "ValueTreesModel") (As := [.int (nI j), .int (nI kt)]) (rest := []) ⟨hx, hb, hml, hown, hts⟩ (c_M_keep l D dT _ mm wd lf rt tc ty F sz Wk (cs (.pow (.num x.toInt) kt)) dg k sh hM hW j kt hj (by rw [← ebs]; have h9 := nser_len x.toInt; have h8 := nb_lt.mpr hzz; simp only [List.length_append, List.length_cons, List.length_nil, size4_len]; omega)) ⟨callB_of 2 hts (gI gd_up gd_c q647) rfl rfl rfl (ht _ q10) (ht _ q644) hd_M_keep ⟨Nat.le_of_ble_eq_true rfl, Nat.le_of_ble_eq_true rfl⟩, ht _ q646, ht _ qs25⟩ (z_preV hK (va_recv hK.1 hM.1 (ci := 10) (q0 := 0) rfl rfl)) rfl rfl hl.1 rfl (lv_room (Nat.le_of_ble_eq_true rfl)) d_M_number_157 ⟨Nat.le_refl _, Nat.le_refl _⟩) hS (fun _ h9 => h9) (fun v38 H locs hv37 hz39 hf40 hS => ?_)
                rcases hv37 with ⟨hk1, rfl, hM⟩ | ⟨hk1, rfl, hM⟩
                · refine W.eq (g2 := F0 m 160 ls [.int (-2)]) rfl ?_
                  refine z_iretQ hx hb hr hlocks d_M_number_160 hS (Nat.le_refl _) (Nat.le_refl _) ?_
                  have eo := show o_number (nI kt) x = some (.pow (.num x.toInt) kt) from nu_o (by omega) (fun h9 => absurd h9 hneg)
                  rw [eo]
                  exact kO_done ⟨_, _, _, _, _, hW.1, Or.inl ⟨hk1, rfl, hM⟩⟩ hO hT hR hj hkt ⟨rfl, rfl, rfl, hword, hzz, by omega, by have := x.toInt_lt; omega⟩
                · refine W.eq (g2 := F0 m 160 ls [.int (nI (cs (.pow (.num x.toInt) kt)).length)]) rfl ?_
                  refine z_iretQ hx hb hr hlocks d_M_number_160 hS (Nat.le_refl _) (Nat.le_refl _) ?_
                  have eo := show o_number (nI kt) x = some (.pow (.num x.toInt) kt) from nu_o (by omega) (fun h9 => absurd h9 hneg)
                  rw [eo]
                  exact kO_done ⟨_, _, _, _, _, hW.1, Or.inr ⟨hk1, rfl, hM⟩⟩ hO hT hR hj hkt ⟨rfl, rfl, rfl, hword, hzz, by omega, by have := x.toInt_lt; omega⟩
              · have hne : ¬ N / 65536 ^ k = 0 := fun h9 => c31 (lc_eq.mpr (Int64.toInt_inj.mp (by rw [hrest, h9]; rfl)))
                have hk3 := num_4 hN9 hne hk4
                refine lv_lload hx hb d_M_number_82 (lv_at hl 0 rfl) ?_
                refine lv_ldc2 (v := 65536) hx hb hown (hts (.constantLong "ValueTreesModel" 115 65536) (by decide +kernel)) d_M_number_84 ?_
                refine lv_lrem hx hb d_M_number_87 (by decide) ?_
                refine lv_l2i (v := (q - q / 65536 * 65536).toInt32) hx hb d_M_number_88 rfl ?_
                rw [(num_pos hrest).1]
                refine lv_istore (lv' := [(8, .int (nI (N / 65536 ^ k % 65536))), (6, .long q), (3, .long x), (0, .ref (mm 0)), (1, .int (nI j)), (2, .int (nI kt))]) hx hb d_M_number_89 hl (by decide) rfl (fun ls hl => ?_)
                refine lv_aload_n hx hb d_M_number_91 rfl (lv_at hl 3 rfl) ?_
                refine va_get (D := D) (ci := 10) (v := .ref (mm 8)) (C := "ValueTreesModel") (T := T_M) (N := 12) hx hb ht in_M hown hK.1 hM.1 0 rfl rfl 9 (by decide) (ht _ q548) (fun _ h9 => h9) rfl d_M_number_92 ?_
                refine lv_aload_n hx hb d_M_number_95 rfl (lv_at hl 3 rfl) ?_
                refine va_get (D := D) (ci := 10) (v := .int (nI k)) (C := "ValueTreesModel") (T := T_M) (N := 12) hx hb ht in_M hown hK.1 hM.1 0 rfl rfl 10 (by decide) (ht _ q549) (fun _ h9 => h9) rfl d_M_number_96 ?_
                refine lv_iload hx hb d_M_number_99 (lv_at hl 0 rfl) ?_
                refine lv_if_ge (tgt := 110) hx hb d_M_number_101 (by decide) (fun c41 => ?_) (fun c41 => absurd (nI_pos' (by omega)) c41)
                refine lv_iload hx hb d_M_number_110 (lv_at hl 0 rfl) ?_
                refine m_ast_dg hx hb hK hM hS k rfl (by omega) (N / 65536 ^ k % 65536) rfl d_M_number_112 (fun H locs hM hS => ?_)
                have hM : mAt D dT mm wd lf rt tc ty F sz Wk wz (updN dg k (N / 65536 ^ k % 65536)) k sh H := hM
                refine lv_aload_n hx hb d_M_number_113 rfl (lv_at hl 3 rfl) ?_
                refine lv_dup hx hb d_M_number_114 rfl ?_
                refine va_get (D := D) (ci := 10) (v := .int (nI k)) (C := "ValueTreesModel") (T := T_M) (N := 12) hx hb ht in_M hown hK.1 hM.1 0 rfl rfl 10 (by decide) (ht _ q549) (fun _ h9 => h9) rfl d_M_number_115 ?_
                refine lv_iconst (v := 1) hx hb d_M_number_118 (by decide) ?_
                refine lv_iadd hx hb d_M_number_119 ?_
                rw [show (((nI k) + 1) : Int32) = nI (k + 1) from nI_add k 1]
                refine m_put_dc hx hb ht hown hK hM hS (ht _ q549) (k + 1) rfl d_M_number_120 (fun H locs hM hS => ?_)
                have hM : mAt D dT mm wd lf rt tc ty F sz Wk wz (updN dg k (N / 65536 ^ k % 65536)) (k + 1) sh H := hM
                refine lv_lload hx hb d_M_number_123 (lv_at hl 1 rfl) ?_
                refine lv_ldc2 (v := 65536) hx hb hown (hts (.constantLong "ValueTreesModel" 115 65536) (by decide +kernel)) d_M_number_125 ?_
                refine lv_ldiv hx hb d_M_number_128 (by decide) ?_
                refine lv_lstore (lv' := [(6, .long (q / 65536)), (8, .int (nI (N / 65536 ^ k % 65536))), (3, .long x), (0, .ref (mm 0)), (1, .int (nI j)), (2, .int (nI kt))]) hx hb d_M_number_129 hl (by decide) rfl (fun ls hl => ?_)
                refine lv_goto (tgt := 75) hx hb d_M_number_131 (by decide) ?_
                exact ih75 (k + 1) (q / 65536) (by omega) (by rw [(num_pos hrest).2, Nat.pow_succ, ← Nat.div_div_eq_div_mul]) (Or.inr (by rw [Nat.add_sub_cancel]; exact hne)) (by omega) _ _ _ (dig_step hdig) hM hS ls (lv_sub hl [0, 2, 3, 4, 5] rfl)
          exact loop30 5 0 x (by omega) (by rw [hNx, Nat.pow_zero, Nat.div_one]) (Or.inl rfl) (by omega) _ _ dg (fun j hj => absurd hj (Nat.not_lt_zero j)) hM hS ls (lv_sub hl [0, 5, 2, 3, 4] rfl)
      · rw [if_neg hq11] at hv9
        subst hv9
        refine lv_if_eq (tgt := 31) hx hb d_M_number_24 (by decide) (fun _ => ?_) (fun c42 => absurd c42 (by decide))
        refine lv_iconst (v := 0) hx hb d_M_number_31 (by decide) ?_
        refine lv_istore (lv' := [(5, .int 0), (0, .ref (mm 0)), (1, .int (nI j)), (2, .int (nI kt)), (3, .long x)]) hx hb d_M_number_32 hl (by decide) rfl (fun ls hl => ?_)
        refine lv_iload hx hb d_M_number_34 (lv_at hl 0 rfl) ?_
        refine lv_if_eq (tgt := 65) hx hb d_M_number_36 (by decide) (fun _ => ?_) (fun c43 => absurd c43 (by decide))
        refine lv_iconst (v := (-1)) hx hb d_M_number_65 (by decide) ?_
        refine z_iretQ hx hb hr hlocks d_M_number_66 hS (Nat.le_refl _) (Nat.le_refl _) ?_
        have eo : o_number (nI kt) x = none := nu_w (by omega) (fun h9 => hq11 ((isNum_nI (by omega)).mpr (by have h8 := (hO.2.2 kt hkt).2.2.1 (by omega); omega)))
        rw [eo]
        exact ⟨rfl, _, _, _, _, _, _, _, _, _, _, _, hM, hO, hT, hR, hWk⟩
    · rw [if_neg hq7] at hv5
      subst hv5
      refine lv_if_eq (tgt := 31) hx hb d_M_number_12 (by decide) (fun _ => ?_) (fun c44 => absurd c44 (by decide))
      refine lv_iconst (v := 0) hx hb d_M_number_31 (by decide) ?_
      refine lv_istore (lv' := [(5, .int 0), (0, .ref (mm 0)), (1, .int (nI j)), (2, .int t), (3, .long x)]) hx hb d_M_number_32 hl (by decide) rfl (fun ls hl => ?_)
      refine lv_iload hx hb d_M_number_34 (lv_at hl 0 rfl) ?_
      refine lv_if_eq (tgt := 65) hx hb d_M_number_36 (by decide) (fun _ => ?_) (fun c45 => absurd c45 (by decide))
      refine lv_iconst (v := (-1)) hx hb d_M_number_65 (by decide) ?_
      refine z_iretQ hx hb hr hlocks d_M_number_66 hS (Nat.le_refl _) (Nat.le_refl _) ?_
      have eo : o_number t x = none := nu_t hq7 htc10 htc
      rw [eo]
      exact ⟨rfl, _, _, _, _, _, _, _, _, _, _, _, hM, hO, hT, hR, hWk⟩
  · rw [if_neg hq3] at hv1
    subst hv1
    refine lv_if_eq (tgt := 31) hx hb d_M_number_4 (by decide) (fun _ => ?_) (fun c46 => absurd c46 (by decide))
    refine lv_iconst (v := 0) hx hb d_M_number_31 (by decide) ?_
    refine lv_istore (lv' := [(5, .int 0), (0, .ref (mm 0)), (1, .int r), (2, .int t), (3, .long x)]) hx hb d_M_number_32 hl (by decide) rfl (fun ls hl => ?_)
    refine lv_iload hx hb d_M_number_34 (lv_at hl 0 rfl) ?_
    refine lv_if_eq (tgt := 65) hx hb d_M_number_36 (by decide) (fun _ => ?_) (fun c47 => absurd c47 (by decide))
    refine lv_iconst (v := (-1)) hx hb d_M_number_65 (by decide) ?_
    refine z_iretQ hx hb hr hlocks d_M_number_66 hS (Nat.le_refl _) (Nat.le_refl _) ?_
    rw [kp_out hq3]
    exact ⟨rfl, _, _, _, _, _, _, _, _, _, _, _, hM, hO, hT, hR, hWk⟩
