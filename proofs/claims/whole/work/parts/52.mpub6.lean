abbrev b_M_which : ByteArray := prog_12_method_57_code
abbrev y_M_which : MethodName := ⟨"ValueTreesModel", "which", "(I)I"⟩
abbrev w_M_which : List Cond := .code y_M_which b_M_which 4 (Option.some .int) :: gt
theorem hd_M_which : (y_M_which).cls ≠ "java/lang/invoke/MethodHandle" ∧ (y_M_which).cls ≠ "java/lang/invoke/VarHandle" ∧ (parseMethodDescriptor (y_M_which).desc).map (fun d => d.parameters.length) = some 1 := by decide +kernel
theorem d_M_which_0 : decode b_M_which 0 = .ok (.aload_n 0, 1) := by decide +kernel
theorem d_M_which_1 : decode b_M_which 1 = .ok (.iload_n 1, 1) := by decide +kernel
theorem d_M_which_2 : decode b_M_which 2 = .ok (.invokevirtual 124, 3) := by decide +kernel
theorem d_M_which_5 : decode b_M_which 5 = .ok (.istore_n 2, 1) := by decide +kernel
theorem d_M_which_6 : decode b_M_which 6 = .ok (.iload_n 2, 1) := by decide +kernel
theorem d_M_which_7 : decode b_M_which 7 = .ok (.iconst 1, 1) := by decide +kernel
theorem d_M_which_8 : decode b_M_which 8 = .ok (.if_icmp .eq 17, 3) := by decide +kernel
theorem d_M_which_11 : decode b_M_which 11 = .ok (.iload_n 2, 1) := by decide +kernel
theorem d_M_which_12 : decode b_M_which 12 = .ok (.bipush 10, 2) := by decide +kernel
theorem d_M_which_14 : decode b_M_which 14 = .ok (.if_icmp .eq 11, 3) := by decide +kernel
theorem d_M_which_17 : decode b_M_which 17 = .ok (.iload_n 2, 1) := by decide +kernel
theorem d_M_which_18 : decode b_M_which 18 = .ok (.bipush 14, 2) := by decide +kernel
theorem d_M_which_20 : decode b_M_which 20 = .ok (.if_icmp .eq 5, 3) := by decide +kernel
theorem d_M_which_23 : decode b_M_which 23 = .ok (.iconst (-1), 1) := by decide +kernel
theorem d_M_which_24 : decode b_M_which 24 = .ok (.ireturn, 1) := by decide +kernel
theorem d_M_which_25 : decode b_M_which 25 = .ok (.aload_n 0, 1) := by decide +kernel
theorem d_M_which_26 : decode b_M_which 26 = .ok (.iload_n 1, 1) := by decide +kernel
theorem d_M_which_27 : decode b_M_which 27 = .ok (.invokestatic 112, 3) := by decide +kernel
theorem d_M_which_30 : decode b_M_which 30 = .ok (.iconst 1, 1) := by decide +kernel
theorem d_M_which_31 : decode b_M_which 31 = .ok (.iadd, 1) := by decide +kernel
theorem d_M_which_32 : decode b_M_which 32 = .ok (.invokevirtual 72, 3) := by decide +kernel
theorem d_M_which_35 : decode b_M_which 35 = .ok (.istore_n 3, 1) := by decide +kernel
theorem d_M_which_36 : decode b_M_which 36 = .ok (.iload_n 3, 1) := by decide +kernel
theorem d_M_which_37 : decode b_M_which 37 = .ok (.iconst 3, 1) := by decide +kernel
theorem d_M_which_38 : decode b_M_which 38 = .ok (.if_icmp .eq 14, 3) := by decide +kernel
theorem d_M_which_41 : decode b_M_which 41 = .ok (.iload_n 3, 1) := by decide +kernel
theorem d_M_which_42 : decode b_M_which 42 = .ok (.bipush 6, 2) := by decide +kernel
theorem d_M_which_44 : decode b_M_which 44 = .ok (.if_icmp .eq 8, 3) := by decide +kernel
theorem d_M_which_47 : decode b_M_which 47 = .ok (.iload_n 3, 1) := by decide +kernel
theorem d_M_which_48 : decode b_M_which 48 = .ok (.iconst 5, 1) := by decide +kernel
theorem d_M_which_49 : decode b_M_which 49 = .ok (.if_icmp .ne 7, 3) := by decide +kernel
theorem d_M_which_52 : decode b_M_which 52 = .ok (.iconst 0, 1) := by decide +kernel
theorem d_M_which_53 : decode b_M_which 53 = .ok (.goto 4, 3) := by decide +kernel
theorem d_M_which_56 : decode b_M_which 56 = .ok (.iconst 1, 1) := by decide +kernel
theorem d_M_which_57 : decode b_M_which 57 = .ok (.ireturn, 1) := by decide +kernel
set_option maxHeartbeats 4000000 in
set_option maxRecDepth 100000 in
theorem p_M_which (l : Launch) (D : va_G) (dT : Nat → ClassId) (H : Heap) (mm : Nat → Nat) (tb : Nat → TR) (tc : Nat) (RV : Nat → Option VT) (hI : mI D dT mm tb tc RV H) (r : Int32) : Met l y_M_which w_M_which ({ frames := 3, cells := 0, slots := 0, locals := 62 }) (z_P D dT [.ref (mm 0), .int r] H) (z_R (fun v => v = .int (a_which RV r))) 0 0 (fun _ => False) := by
  obtain ⟨wd, lf, rt, ty, F, sz, Wk, wz, dg, dc, sh, hM, hO, hT, hR, hWk⟩ := hI
  have hF := hR.1
  have htc := hO.1
  have htc10 := hO.2.1
  refine Met.ofW (cc := b_M_which) (maxL := 4) (ret := (Option.some .int)) (by decide) rfl ?_
  intro p e s m args below meth c s₁ B hml hv
  obtain ⟨rfl, rfl, hK⟩ := hv
  have hx := B.exec
  have hb := B.bytes
  have hr := B.returns
  have hts := atoms_spec (ws := w_M_which) B.pre
  have ht : ∀ w9 ∈ gt, w9.before [.ref (mm 0), .int r].toArray s = true := fun w9 h => hts w9 (List.mem_cons_of_mem _ h)
  have hown : s.vm.findClass "ValueTreesModel" = some m.cls := findClass_of_methodNamed B.named
  have hlocks := B.notSynchronized
  have hl := lv_entry ([.ref (mm 0), .int r]) (n := 4) (Nat.le_of_ble_eq_true rfl)
  rw [lg_entry_eq]
  generalize (lg_sl ([.ref (mm 0), .int r]) ++ List.replicate (4 - (lg_sl ([.ref (mm 0), .int r])).length) Slot.unset).toArray = ls at hl ⊢
  have hl : lv_has ls 4 [(0, .ref (mm 0)), (1, .int r)] := hl
  refine lv_aload_n hx hb d_M_which_0 rfl (lv_at hl 0 rfl) ?_
  refine lv_iload_n hx hb d_M_which_1 rfl (lv_at hl 1 rfl) ?_
  refine z_callR (va_runV (C := "ValueTreesModel") (As := [.int r]) (rest := []) ⟨hx, hb, hml, hown, hts⟩ (c_M_wordOf l D dT _ mm wd lf rt tc ty F sz Wk wz dg dc sh hM tb hO hT RV hR r) ⟨callB_of 1 hts (gI gd_up gd_c q658) rfl rfl rfl (ht _ q10) (ht _ q655) hd_M_wordOf ⟨Nat.le_of_ble_eq_true rfl, Nat.le_of_ble_eq_true rfl⟩, ht _ q657, ht _ qs26⟩ (z_preV hK (va_recv hK.1 hM.1 (ci := 10) (q0 := 0) rfl rfl)) rfl rfl hl.1 rfl (lv_room (Nat.le_of_ble_eq_true rfl)) d_M_which_2 ⟨Nat.zero_le _, Nat.zero_le _⟩) (fun v2 hv1 => ?_)
  have hv1 : v2 = .int (match rgs RV r with | none => -1 | some v => nI (tW (tb (vty v)))) := hv1
  cases hr3 : rgs RV r with
  | none =>
    rw [hr3] at hv1
    subst hv1
    try dsimp only
    refine W.eq (g2 := F0 m 5 ls [.int (-1)]) rfl ?_
    refine lv_istore_n (lv' := [(2, .int (-1)), (0, .ref (mm 0)), (1, .int r)]) hx hb d_M_which_5 rfl hl (by decide) rfl (fun ls hl => ?_)
    refine lv_iload_n hx hb d_M_which_6 rfl (lv_at hl 0 rfl) ?_
    refine lv_iconst (v := 1) hx hb d_M_which_7 (by decide) ?_
    refine lv_icmp_eq (tgt := 25) hx hb d_M_which_8 (by decide) (fun c6 => absurd c6 (by decide)) (fun _ => ?_)
    refine lv_iload_n hx hb d_M_which_11 rfl (lv_at hl 0 rfl) ?_
    refine lv_bipush (v := 10) hx hb d_M_which_12 (by decide) ?_
    refine lv_icmp_eq (tgt := 25) hx hb d_M_which_14 (by decide) (fun c7 => absurd c7 (by decide)) (fun _ => ?_)
    refine lv_iload_n hx hb d_M_which_17 rfl (lv_at hl 0 rfl) ?_
    refine lv_bipush (v := 14) hx hb d_M_which_18 (by decide) ?_
    refine lv_icmp_eq (tgt := 25) hx hb d_M_which_20 (by decide) (fun c8 => absurd c8 (by decide)) (fun _ => ?_)
    refine lv_iconst (v := (-1)) hx hb d_M_which_23 (by decide) ?_
    exact z_iretR hx hb hr hlocks d_M_which_24 (by unfold a_which; rw [hr3])
  | some v4 =>
    rw [hr3] at hv1
    subst hv1
    refine W.eq (g2 := F0 m 5 ls [.int (nI (tW (tb (vty v4))))]) rfl ?_
    obtain ⟨j5, hj5, rfl, hV4⟩ := rgs_some hr3
    obtain ⟨ht4, et4, hw4, es4, hn4, hf4⟩ := mR_some hR hj5 hV4
    refine lv_istore_n (lv' := [(2, .int (nI (tW (tb (vty v4))))), (0, .ref (mm 0)), (1, .int (nI j5))]) hx hb d_M_which_5 rfl hl (by decide) rfl (fun ls hl => ?_)
    have hwl := (hO.2.2 _ ht4).1
    obtain ⟨c9, ec9, hc9⟩ := wty_pow hw4
    have hfz := hf4
    have hlz := hn4
    rw [ec9] at hfz hlz
    cases c9 with
    | num z =>
      have hword : tW (tb (vty v4)) = 2 ∨ tW (tb (vty v4)) = 3 ∨ tW (tb (vty v4)) = 4 ∨ tW (tb (vty v4)) = 8 := hc9.2.1
      refine lv_iload_n hx hb d_M_which_6 rfl (lv_at hl 0 rfl) ?_
      refine lv_iconst (v := 1) hx hb d_M_which_7 (by decide) ?_
      refine lv_icmp_eq (tgt := 25) hx hb d_M_which_8 (by decide) (fun c9 => absurd ((nI_eq (a := (tW (tb (vty v4)))) (b := 1) (by omega) (by omega)).mp c9) (by omega)) (fun c9 => ?_)
      refine lv_iload_n hx hb d_M_which_11 rfl (lv_at hl 0 rfl) ?_
      refine lv_bipush (v := 10) hx hb d_M_which_12 (by decide) ?_
      refine lv_icmp_eq (tgt := 25) hx hb d_M_which_14 (by decide) (fun c10 => absurd ((nI_eq (a := (tW (tb (vty v4)))) (b := 10) (by omega) (by omega)).mp c10) (by omega)) (fun c10 => ?_)
      refine lv_iload_n hx hb d_M_which_17 rfl (lv_at hl 0 rfl) ?_
      refine lv_bipush (v := 14) hx hb d_M_which_18 (by decide) ?_
      refine lv_icmp_eq (tgt := 25) hx hb d_M_which_20 (by decide) (fun c11 => absurd ((nI_eq (a := (tW (tb (vty v4)))) (b := 14) (by omega) (by omega)).mp c11) (by omega)) (fun c11 => ?_)
      refine lv_iconst (v := (-1)) hx hb d_M_which_23 (by decide) ?_
      exact z_iretR hx hb hr hlocks d_M_which_24 (by unfold a_which; rw [hr3, ec9]; rfl)
    | natCast k =>
      have hword : tW (tb (vty v4)) = 5 ∨ tW (tb (vty v4)) = 6 := hc9.2.1
      have hk8 : k % 16 ≤ 8 := hc9.2.2.1
      rw [f_row] at hfz
      rw [l_row] at hlz
      refine lv_iload_n hx hb d_M_which_6 rfl (lv_at hl 0 rfl) ?_
      refine lv_iconst (v := 1) hx hb d_M_which_7 (by decide) ?_
      refine lv_icmp_eq (tgt := 25) hx hb d_M_which_8 (by decide) (fun c12 => absurd ((nI_eq (a := (tW (tb (vty v4)))) (b := 1) (by omega) (by omega)).mp c12) (by omega)) (fun c12 => ?_)
      refine lv_iload_n hx hb d_M_which_11 rfl (lv_at hl 0 rfl) ?_
      refine lv_bipush (v := 10) hx hb d_M_which_12 (by decide) ?_
      refine lv_icmp_eq (tgt := 25) hx hb d_M_which_14 (by decide) (fun c13 => absurd ((nI_eq (a := (tW (tb (vty v4)))) (b := 10) (by omega) (by omega)).mp c13) (by omega)) (fun c13 => ?_)
      refine lv_iload_n hx hb d_M_which_17 rfl (lv_at hl 0 rfl) ?_
      refine lv_bipush (v := 14) hx hb d_M_which_18 (by decide) ?_
      refine lv_icmp_eq (tgt := 25) hx hb d_M_which_20 (by decide) (fun c14 => absurd ((nI_eq (a := (tW (tb (vty v4)))) (b := 14) (by omega) (by omega)).mp c14) (by omega)) (fun c14 => ?_)
      refine lv_iconst (v := (-1)) hx hb d_M_which_23 (by decide) ?_
      exact z_iretR hx hb hr hlocks d_M_which_24 (by unfold a_which; rw [hr3, ec9]; rfl)
    | intCast k =>
      have hword : tW (tb (vty v4)) = 11 := by simp only [wty] at hc9; omega
      have hl5 : (cs v4).length = 5 := by rw [ec9, l_nil]
      refine lv_iload_n hx hb d_M_which_6 rfl (lv_at hl 0 rfl) ?_
      refine lv_iconst (v := 1) hx hb d_M_which_7 (by decide) ?_
      refine lv_icmp_eq (tgt := 25) hx hb d_M_which_8 (by decide) (fun c15 => absurd ((nI_eq (a := (tW (tb (vty v4)))) (b := 1) (by omega) (by omega)).mp c15) (by omega)) (fun c15 => ?_)
      refine lv_iload_n hx hb d_M_which_11 rfl (lv_at hl 0 rfl) ?_
      refine lv_bipush (v := 10) hx hb d_M_which_12 (by decide) ?_
      refine lv_icmp_eq (tgt := 25) hx hb d_M_which_14 (by decide) (fun c16 => absurd ((nI_eq (a := (tW (tb (vty v4)))) (b := 10) (by omega) (by omega)).mp c16) (by omega)) (fun c16 => ?_)
      refine lv_iload_n hx hb d_M_which_17 rfl (lv_at hl 0 rfl) ?_
      refine lv_bipush (v := 14) hx hb d_M_which_18 (by decide) ?_
      refine lv_icmp_eq (tgt := 25) hx hb d_M_which_20 (by decide) (fun c17 => absurd ((nI_eq (a := (tW (tb (vty v4)))) (b := 14) (by omega) (by omega)).mp c17) (by omega)) (fun c17 => ?_)
      refine lv_iconst (v := (-1)) hx hb d_M_which_23 (by decide) ?_
      exact z_iretR hx hb hr hlocks d_M_which_24 (by unfold a_which; rw [hr3, ec9]; rfl)
    | var i =>
      rw [f_var] at hfz
      rcases hc9.2 with ⟨hword, hi9⟩ | ⟨hword, hi9⟩ | ⟨hword, hi9⟩
      · subst hi9
        refine lv_iload_n hx hb d_M_which_6 rfl (lv_at hl 0 rfl) ?_
        refine lv_iconst (v := 1) hx hb d_M_which_7 (by decide) ?_
        refine lv_icmp_eq (tgt := 25) hx hb d_M_which_8 (by decide) (fun c18 => absurd ((nI_eq (a := (tW (tb (vty v4)))) (b := 1) (by omega) (by omega)).mp c18) (by omega)) (fun c18 => ?_)
        refine lv_iload_n hx hb d_M_which_11 rfl (lv_at hl 0 rfl) ?_
        refine lv_bipush (v := 10) hx hb d_M_which_12 (by decide) ?_
        refine lv_icmp_eq (tgt := 25) hx hb d_M_which_14 (by decide) (fun c19 => absurd ((nI_eq (a := (tW (tb (vty v4)))) (b := 10) (by omega) (by omega)).mp c19) (by omega)) (fun c19 => ?_)
        refine lv_iload_n hx hb d_M_which_17 rfl (lv_at hl 0 rfl) ?_
        refine lv_bipush (v := 14) hx hb d_M_which_18 (by decide) ?_
        refine lv_icmp_eq (tgt := 25) hx hb d_M_which_20 (by decide) (fun c20 => absurd ((nI_eq (a := (tW (tb (vty v4)))) (b := 14) (by omega) (by omega)).mp c20) (by omega)) (fun c20 => ?_)
        refine lv_iconst (v := (-1)) hx hb d_M_which_23 (by decide) ?_
        exact z_iretR hx hb hr hlocks d_M_which_24 (by unfold a_which; rw [hr3, ec9]; rfl)
      · have ht1 : (vty v4) = 1 := (is_word hO ht4 (by omega)).trans hword
        rcases hi9 with rfl | rfl
        · have hf1 : F (160 * j5 + 1) = 3 := by rw [hfz.2, ht1]; rfl
          refine lv_iload_n hx hb d_M_which_6 rfl (lv_at hl 0 rfl) ?_
          refine lv_iconst (v := 1) hx hb d_M_which_7 (by decide) ?_
          refine lv_icmp_eq (tgt := 25) hx hb d_M_which_8 (by decide) (fun c21 => ?_) (fun c21 => absurd ((nI_eq (a := (tW (tb (vty v4)))) (b := 1) (by omega) (by omega)).mpr (by omega)) c21)
          refine lv_aload_n hx hb d_M_which_25 rfl (lv_at hl 1 rfl) ?_
          refine lv_iload_n hx hb d_M_which_26 rfl (lv_at hl 2 rfl) ?_
          refine z_callR (va_runS (As := [.int (nI j5)]) (rest := [.ref (mm 0)]) ⟨hx, hb, hml, hown, hts⟩ (c_M_base l D dT _ (nI j5)) ⟨callB_of 1 hts (gI gd_up gd_c q650) rfl rfl rfl (ht _ q10) (ht _ q648) hd_M_base ⟨Nat.le_of_ble_eq_true rfl, Nat.le_of_ble_eq_true rfl⟩, ht _ q649⟩ (z_preS hK) rfl rfl hl.1 rfl (lv_room (Nat.le_of_ble_eq_true rfl)) d_M_which_27 ⟨Nat.zero_le _, Nat.zero_le _⟩) (fun v23 hv22 => ?_)
          subst hv22
          rw [show (160 * nI j5 : Int32) = nI (160 * j5) from pk_mul 160 j5]
          refine lv_iconst (v := 1) hx hb d_M_which_30 (by decide) ?_
          refine lv_iadd hx hb d_M_which_31 ?_
          rw [show (((nI (160 * j5)) + 1) : Int32) = nI ((160 * j5) + 1) from nI_add (160 * j5) 1]
          refine z_callR (va_runV (C := "ValueTreesModel") (As := [.int (nI ((160 * j5) + 1))]) (rest := []) ⟨hx, hb, hml, hown, hts⟩ (c_M_byteOf l D dT _ mm wd lf rt tc ty F sz Wk wz dg dc sh hM ((160 * j5) + 1) (by omega) (hF _)) ⟨callB_of 1 hts (gI gd_up gd_c q670) rfl rfl rfl (ht _ q10) (ht _ q667) hd_M_byteOf ⟨Nat.le_of_ble_eq_true rfl, Nat.le_of_ble_eq_true rfl⟩, ht _ q669, ht _ qs29⟩ (z_preV hK (va_recv hK.1 hM.1 (ci := 10) (q0 := 0) rfl rfl)) rfl rfl hl.1 rfl (lv_room (Nat.le_of_ble_eq_true rfl)) d_M_which_32 ⟨Nat.zero_le _, Nat.zero_le _⟩) (fun v25 hv24 => ?_)
          subst hv24
          rw [hf1]
          refine lv_istore_n (lv' := [(3, .int (nI 3)), (2, .int (nI (tW (tb (vty v4))))), (0, .ref (mm 0)), (1, .int (nI j5))]) hx hb d_M_which_35 rfl hl (by decide) rfl (fun ls hl => ?_)
          refine lv_iload_n hx hb d_M_which_36 rfl (lv_at hl 0 rfl) ?_
          refine lv_iconst (v := 3) hx hb d_M_which_37 (by decide) ?_
          refine lv_icmp_eq (tgt := 52) hx hb d_M_which_38 (by decide) (fun c26 => ?_) (fun c26 => absurd ((nI_eq (a := 3) (b := 3) (by omega) (by omega)).mpr (by omega)) c26)
          refine lv_iconst (v := 0) hx hb d_M_which_52 (by decide) ?_
          refine lv_goto (tgt := 57) hx hb d_M_which_53 (by decide) ?_
          exact z_iretR hx hb hr hlocks d_M_which_57 (by unfold a_which; rw [hr3, ec9]; rfl)
        · have hf1 : F (160 * j5 + 1) = 10 := by rw [hfz.2, ht1]; rfl
          refine lv_iload_n hx hb d_M_which_6 rfl (lv_at hl 0 rfl) ?_
          refine lv_iconst (v := 1) hx hb d_M_which_7 (by decide) ?_
          refine lv_icmp_eq (tgt := 25) hx hb d_M_which_8 (by decide) (fun c27 => ?_) (fun c27 => absurd ((nI_eq (a := (tW (tb (vty v4)))) (b := 1) (by omega) (by omega)).mpr (by omega)) c27)
          refine lv_aload_n hx hb d_M_which_25 rfl (lv_at hl 1 rfl) ?_
          refine lv_iload_n hx hb d_M_which_26 rfl (lv_at hl 2 rfl) ?_
          refine z_callR (va_runS (As := [.int (nI j5)]) (rest := [.ref (mm 0)]) ⟨hx, hb, hml, hown, hts⟩ (c_M_base l D dT _ (nI j5)) ⟨callB_of 1 hts (gI gd_up gd_c q650) rfl rfl rfl (ht _ q10) (ht _ q648) hd_M_base ⟨Nat.le_of_ble_eq_true rfl, Nat.le_of_ble_eq_true rfl⟩, ht _ q649⟩ (z_preS hK) rfl rfl hl.1 rfl (lv_room (Nat.le_of_ble_eq_true rfl)) d_M_which_27 ⟨Nat.zero_le _, Nat.zero_le _⟩) (fun v29 hv28 => ?_)
          subst hv28
          rw [show (160 * nI j5 : Int32) = nI (160 * j5) from pk_mul 160 j5]
          refine lv_iconst (v := 1) hx hb d_M_which_30 (by decide) ?_
          refine lv_iadd hx hb d_M_which_31 ?_
          rw [show (((nI (160 * j5)) + 1) : Int32) = nI ((160 * j5) + 1) from nI_add (160 * j5) 1]
          refine z_callR (va_runV (C := "ValueTreesModel") (As := [.int (nI ((160 * j5) + 1))]) (rest := []) ⟨hx, hb, hml, hown, hts⟩ (c_M_byteOf l D dT _ mm wd lf rt tc ty F sz Wk wz dg dc sh hM ((160 * j5) + 1) (by omega) (hF _)) ⟨callB_of 1 hts (gI gd_up gd_c q670) rfl rfl rfl (ht _ q10) (ht _ q667) hd_M_byteOf ⟨Nat.le_of_ble_eq_true rfl, Nat.le_of_ble_eq_true rfl⟩, ht _ q669, ht _ qs29⟩ (z_preV hK (va_recv hK.1 hM.1 (ci := 10) (q0 := 0) rfl rfl)) rfl rfl hl.1 rfl (lv_room (Nat.le_of_ble_eq_true rfl)) d_M_which_32 ⟨Nat.zero_le _, Nat.zero_le _⟩) (fun v31 hv30 => ?_)
          subst hv30
          rw [hf1]
          refine lv_istore_n (lv' := [(3, .int (nI 10)), (2, .int (nI (tW (tb (vty v4))))), (0, .ref (mm 0)), (1, .int (nI j5))]) hx hb d_M_which_35 rfl hl (by decide) rfl (fun ls hl => ?_)
          refine lv_iload_n hx hb d_M_which_36 rfl (lv_at hl 0 rfl) ?_
          refine lv_iconst (v := 3) hx hb d_M_which_37 (by decide) ?_
          refine lv_icmp_eq (tgt := 52) hx hb d_M_which_38 (by decide) (fun c32 => absurd ((nI_eq (a := 10) (b := 3) (by omega) (by omega)).mp c32) (by omega)) (fun c32 => ?_)
          refine lv_iload_n hx hb d_M_which_41 rfl (lv_at hl 0 rfl) ?_
          refine lv_bipush (v := 6) hx hb d_M_which_42 (by decide) ?_
          refine lv_icmp_eq (tgt := 52) hx hb d_M_which_44 (by decide) (fun c33 => absurd ((nI_eq (a := 10) (b := 6) (by omega) (by omega)).mp c33) (by omega)) (fun c33 => ?_)
          refine lv_iload_n hx hb d_M_which_47 rfl (lv_at hl 0 rfl) ?_
          refine lv_iconst (v := 5) hx hb d_M_which_48 (by decide) ?_
          refine lv_icmp_ne (tgt := 56) hx hb d_M_which_49 (by decide) (fun c34 => ?_) (fun c34 => absurd ((nI_eq (a := 10) (b := 5) (by omega) (by omega)).mp c34) (by omega))
          refine lv_iconst (v := 1) hx hb d_M_which_56 (by decide) ?_
          exact z_iretR hx hb hr hlocks d_M_which_57 (by unfold a_which; rw [hr3, ec9]; rfl)
      · subst hi9
        have ht1 := not_one hO ht4 (by omega)
        have hf1 : F (160 * j5 + 1) = 6 := by rw [hfz.2]; simp [vtag, ht1]
        refine lv_iload_n hx hb d_M_which_6 rfl (lv_at hl 0 rfl) ?_
        refine lv_iconst (v := 1) hx hb d_M_which_7 (by decide) ?_
        refine lv_icmp_eq (tgt := 25) hx hb d_M_which_8 (by decide) (fun c35 => absurd ((nI_eq (a := (tW (tb (vty v4)))) (b := 1) (by omega) (by omega)).mp c35) (by omega)) (fun c35 => ?_)
        refine lv_iload_n hx hb d_M_which_11 rfl (lv_at hl 0 rfl) ?_
        refine lv_bipush (v := 10) hx hb d_M_which_12 (by decide) ?_
        refine lv_icmp_eq (tgt := 25) hx hb d_M_which_14 (by decide) (fun c36 => ?_) (fun c36 => absurd ((nI_eq (a := (tW (tb (vty v4)))) (b := 10) (by omega) (by omega)).mpr (by omega)) c36)
        refine lv_aload_n hx hb d_M_which_25 rfl (lv_at hl 1 rfl) ?_
        refine lv_iload_n hx hb d_M_which_26 rfl (lv_at hl 2 rfl) ?_
        refine z_callR (va_runS (As := [.int (nI j5)]) (rest := [.ref (mm 0)]) ⟨hx, hb, hml, hown, hts⟩ (c_M_base l D dT _ (nI j5)) ⟨callB_of 1 hts (gI gd_up gd_c q650) rfl rfl rfl (ht _ q10) (ht _ q648) hd_M_base ⟨Nat.le_of_ble_eq_true rfl, Nat.le_of_ble_eq_true rfl⟩, ht _ q649⟩ (z_preS hK) rfl rfl hl.1 rfl (lv_room (Nat.le_of_ble_eq_true rfl)) d_M_which_27 ⟨Nat.zero_le _, Nat.zero_le _⟩) (fun v38 hv37 => ?_)
        subst hv37
        rw [show (160 * nI j5 : Int32) = nI (160 * j5) from pk_mul 160 j5]
        refine lv_iconst (v := 1) hx hb d_M_which_30 (by decide) ?_
        refine lv_iadd hx hb d_M_which_31 ?_
        rw [show (((nI (160 * j5)) + 1) : Int32) = nI ((160 * j5) + 1) from nI_add (160 * j5) 1]
        refine z_callR (va_runV (C := "ValueTreesModel") (As := [.int (nI ((160 * j5) + 1))]) (rest := []) ⟨hx, hb, hml, hown, hts⟩ (c_M_byteOf l D dT _ mm wd lf rt tc ty F sz Wk wz dg dc sh hM ((160 * j5) + 1) (by omega) (hF _)) ⟨callB_of 1 hts (gI gd_up gd_c q670) rfl rfl rfl (ht _ q10) (ht _ q667) hd_M_byteOf ⟨Nat.le_of_ble_eq_true rfl, Nat.le_of_ble_eq_true rfl⟩, ht _ q669, ht _ qs29⟩ (z_preV hK (va_recv hK.1 hM.1 (ci := 10) (q0 := 0) rfl rfl)) rfl rfl hl.1 rfl (lv_room (Nat.le_of_ble_eq_true rfl)) d_M_which_32 ⟨Nat.zero_le _, Nat.zero_le _⟩) (fun v40 hv39 => ?_)
        subst hv39
        rw [hf1]
        refine lv_istore_n (lv' := [(3, .int (nI 6)), (2, .int (nI (tW (tb (vty v4))))), (0, .ref (mm 0)), (1, .int (nI j5))]) hx hb d_M_which_35 rfl hl (by decide) rfl (fun ls hl => ?_)
        refine lv_iload_n hx hb d_M_which_36 rfl (lv_at hl 0 rfl) ?_
        refine lv_iconst (v := 3) hx hb d_M_which_37 (by decide) ?_
        refine lv_icmp_eq (tgt := 52) hx hb d_M_which_38 (by decide) (fun c41 => absurd ((nI_eq (a := 6) (b := 3) (by omega) (by omega)).mp c41) (by omega)) (fun c41 => ?_)
        refine lv_iload_n hx hb d_M_which_41 rfl (lv_at hl 0 rfl) ?_
        refine lv_bipush (v := 6) hx hb d_M_which_42 (by decide) ?_
        refine lv_icmp_eq (tgt := 52) hx hb d_M_which_44 (by decide) (fun c42 => ?_) (fun c42 => absurd ((nI_eq (a := 6) (b := 6) (by omega) (by omega)).mpr (by omega)) c42)
        refine lv_iconst (v := 0) hx hb d_M_which_52 (by decide) ?_
        refine lv_goto (tgt := 57) hx hb d_M_which_53 (by decide) ?_
        exact z_iretR hx hb hr hlocks d_M_which_57 (by unfold a_which; rw [hr3, ec9]; rfl)
    | neg ch =>
      have hwd : tW (tb (vty v4)) = 12 ∨ tW (tb (vty v4)) = 15 ∨ tW (tb (vty v4)) = 16 := by simp only [wty] at hc9; omega
      obtain ⟨ch9, ech9, hch⟩ := tree_of hw4 hwd
      have ech9 := ec9.symm.trans ech9
      cases ech9
      rw [f_neg] at hfz
      rw [l_neg] at hlz
      refine lv_iload_n hx hb d_M_which_6 rfl (lv_at hl 0 rfl) ?_
      refine lv_iconst (v := 1) hx hb d_M_which_7 (by decide) ?_
      refine lv_icmp_eq (tgt := 25) hx hb d_M_which_8 (by decide) (fun c43 => absurd ((nI_eq (a := (tW (tb (vty v4)))) (b := 1) (by omega) (by omega)).mp c43) (by omega)) (fun c43 => ?_)
      refine lv_iload_n hx hb d_M_which_11 rfl (lv_at hl 0 rfl) ?_
      refine lv_bipush (v := 10) hx hb d_M_which_12 (by decide) ?_
      refine lv_icmp_eq (tgt := 25) hx hb d_M_which_14 (by decide) (fun c44 => absurd ((nI_eq (a := (tW (tb (vty v4)))) (b := 10) (by omega) (by omega)).mp c44) (by omega)) (fun c44 => ?_)
      refine lv_iload_n hx hb d_M_which_17 rfl (lv_at hl 0 rfl) ?_
      refine lv_bipush (v := 14) hx hb d_M_which_18 (by decide) ?_
      refine lv_icmp_eq (tgt := 25) hx hb d_M_which_20 (by decide) (fun c45 => absurd ((nI_eq (a := (tW (tb (vty v4)))) (b := 14) (by omega) (by omega)).mp c45) (by omega)) (fun c45 => ?_)
      refine lv_iconst (v := (-1)) hx hb d_M_which_23 (by decide) ?_
      exact z_iretR hx hb hr hlocks d_M_which_24 (by unfold a_which; rw [hr3, ec9]; rfl)
    | add x y =>
      obtain ⟨hm9, hx9, hy9⟩ := hc9
      have hword : tW (tb (vty v4)) = 18 := by omega
      rw [f_add] at hfz
      rw [l_add] at hlz
      refine lv_iload_n hx hb d_M_which_6 rfl (lv_at hl 0 rfl) ?_
      refine lv_iconst (v := 1) hx hb d_M_which_7 (by decide) ?_
      refine lv_icmp_eq (tgt := 25) hx hb d_M_which_8 (by decide) (fun c46 => absurd ((nI_eq (a := (tW (tb (vty v4)))) (b := 1) (by omega) (by omega)).mp c46) (by omega)) (fun c46 => ?_)
      refine lv_iload_n hx hb d_M_which_11 rfl (lv_at hl 0 rfl) ?_
      refine lv_bipush (v := 10) hx hb d_M_which_12 (by decide) ?_
      refine lv_icmp_eq (tgt := 25) hx hb d_M_which_14 (by decide) (fun c47 => absurd ((nI_eq (a := (tW (tb (vty v4)))) (b := 10) (by omega) (by omega)).mp c47) (by omega)) (fun c47 => ?_)
      refine lv_iload_n hx hb d_M_which_17 rfl (lv_at hl 0 rfl) ?_
      refine lv_bipush (v := 14) hx hb d_M_which_18 (by decide) ?_
      refine lv_icmp_eq (tgt := 25) hx hb d_M_which_20 (by decide) (fun c48 => absurd ((nI_eq (a := (tW (tb (vty v4)))) (b := 14) (by omega) (by omega)).mp c48) (by omega)) (fun c48 => ?_)
      refine lv_iconst (v := (-1)) hx hb d_M_which_23 (by decide) ?_
      exact z_iretR hx hb hr hlocks d_M_which_24 (by unfold a_which; rw [hr3, ec9]; rfl)
    | sub a9 x =>
      rw [f_sub] at hfz
      rw [l_sub] at hlz
      rcases hc9.2 with ⟨hword, rfl, hsub⟩ | ⟨hword, rfl, hsub⟩ | ⟨hword, rfl, hsub⟩
      · have hf1 : F (160 * j5 + 1) = 9 := hfz.2.1
        refine lv_iload_n hx hb d_M_which_6 rfl (lv_at hl 0 rfl) ?_
        refine lv_iconst (v := 1) hx hb d_M_which_7 (by decide) ?_
        refine lv_icmp_eq (tgt := 25) hx hb d_M_which_8 (by decide) (fun c49 => absurd ((nI_eq (a := (tW (tb (vty v4)))) (b := 1) (by omega) (by omega)).mp c49) (by omega)) (fun c49 => ?_)
        refine lv_iload_n hx hb d_M_which_11 rfl (lv_at hl 0 rfl) ?_
        refine lv_bipush (v := 10) hx hb d_M_which_12 (by decide) ?_
        refine lv_icmp_eq (tgt := 25) hx hb d_M_which_14 (by decide) (fun c50 => ?_) (fun c50 => absurd ((nI_eq (a := (tW (tb (vty v4)))) (b := 10) (by omega) (by omega)).mpr (by omega)) c50)
        refine lv_aload_n hx hb d_M_which_25 rfl (lv_at hl 1 rfl) ?_
        refine lv_iload_n hx hb d_M_which_26 rfl (lv_at hl 2 rfl) ?_
        refine z_callR (va_runS (As := [.int (nI j5)]) (rest := [.ref (mm 0)]) ⟨hx, hb, hml, hown, hts⟩ (c_M_base l D dT _ (nI j5)) ⟨callB_of 1 hts (gI gd_up gd_c q650) rfl rfl rfl (ht _ q10) (ht _ q648) hd_M_base ⟨Nat.le_of_ble_eq_true rfl, Nat.le_of_ble_eq_true rfl⟩, ht _ q649⟩ (z_preS hK) rfl rfl hl.1 rfl (lv_room (Nat.le_of_ble_eq_true rfl)) d_M_which_27 ⟨Nat.zero_le _, Nat.zero_le _⟩) (fun v52 hv51 => ?_)
        subst hv51
        rw [show (160 * nI j5 : Int32) = nI (160 * j5) from pk_mul 160 j5]
        refine lv_iconst (v := 1) hx hb d_M_which_30 (by decide) ?_
        refine lv_iadd hx hb d_M_which_31 ?_
        rw [show (((nI (160 * j5)) + 1) : Int32) = nI ((160 * j5) + 1) from nI_add (160 * j5) 1]
        refine z_callR (va_runV (C := "ValueTreesModel") (As := [.int (nI ((160 * j5) + 1))]) (rest := []) ⟨hx, hb, hml, hown, hts⟩ (c_M_byteOf l D dT _ mm wd lf rt tc ty F sz Wk wz dg dc sh hM ((160 * j5) + 1) (by omega) (hF _)) ⟨callB_of 1 hts (gI gd_up gd_c q670) rfl rfl rfl (ht _ q10) (ht _ q667) hd_M_byteOf ⟨Nat.le_of_ble_eq_true rfl, Nat.le_of_ble_eq_true rfl⟩, ht _ q669, ht _ qs29⟩ (z_preV hK (va_recv hK.1 hM.1 (ci := 10) (q0 := 0) rfl rfl)) rfl rfl hl.1 rfl (lv_room (Nat.le_of_ble_eq_true rfl)) d_M_which_32 ⟨Nat.zero_le _, Nat.zero_le _⟩) (fun v54 hv53 => ?_)
        subst hv53
        rw [hf1]
        refine lv_istore_n (lv' := [(3, .int (nI 9)), (2, .int (nI (tW (tb (vty v4))))), (0, .ref (mm 0)), (1, .int (nI j5))]) hx hb d_M_which_35 rfl hl (by decide) rfl (fun ls hl => ?_)
        refine lv_iload_n hx hb d_M_which_36 rfl (lv_at hl 0 rfl) ?_
        refine lv_iconst (v := 3) hx hb d_M_which_37 (by decide) ?_
        refine lv_icmp_eq (tgt := 52) hx hb d_M_which_38 (by decide) (fun c55 => absurd ((nI_eq (a := 9) (b := 3) (by omega) (by omega)).mp c55) (by omega)) (fun c55 => ?_)
        refine lv_iload_n hx hb d_M_which_41 rfl (lv_at hl 0 rfl) ?_
        refine lv_bipush (v := 6) hx hb d_M_which_42 (by decide) ?_
        refine lv_icmp_eq (tgt := 52) hx hb d_M_which_44 (by decide) (fun c56 => absurd ((nI_eq (a := 9) (b := 6) (by omega) (by omega)).mp c56) (by omega)) (fun c56 => ?_)
        refine lv_iload_n hx hb d_M_which_47 rfl (lv_at hl 0 rfl) ?_
        refine lv_iconst (v := 5) hx hb d_M_which_48 (by decide) ?_
        refine lv_icmp_ne (tgt := 56) hx hb d_M_which_49 (by decide) (fun c57 => ?_) (fun c57 => absurd ((nI_eq (a := 9) (b := 5) (by omega) (by omega)).mp c57) (by omega))
        refine lv_iconst (v := 1) hx hb d_M_which_56 (by decide) ?_
        exact z_iretR hx hb hr hlocks d_M_which_57 (by unfold a_which; rw [hr3, ec9]; rfl)
      · have hf1 : F (160 * j5 + 1) = 5 := hfz.2.1
        refine lv_iload_n hx hb d_M_which_6 rfl (lv_at hl 0 rfl) ?_
        refine lv_iconst (v := 1) hx hb d_M_which_7 (by decide) ?_
        refine lv_icmp_eq (tgt := 25) hx hb d_M_which_8 (by decide) (fun c58 => absurd ((nI_eq (a := (tW (tb (vty v4)))) (b := 1) (by omega) (by omega)).mp c58) (by omega)) (fun c58 => ?_)
        refine lv_iload_n hx hb d_M_which_11 rfl (lv_at hl 0 rfl) ?_
        refine lv_bipush (v := 10) hx hb d_M_which_12 (by decide) ?_
        refine lv_icmp_eq (tgt := 25) hx hb d_M_which_14 (by decide) (fun c59 => absurd ((nI_eq (a := (tW (tb (vty v4)))) (b := 10) (by omega) (by omega)).mp c59) (by omega)) (fun c59 => ?_)
        refine lv_iload_n hx hb d_M_which_17 rfl (lv_at hl 0 rfl) ?_
        refine lv_bipush (v := 14) hx hb d_M_which_18 (by decide) ?_
        refine lv_icmp_eq (tgt := 25) hx hb d_M_which_20 (by decide) (fun c60 => ?_) (fun c60 => absurd ((nI_eq (a := (tW (tb (vty v4)))) (b := 14) (by omega) (by omega)).mpr (by omega)) c60)
        refine lv_aload_n hx hb d_M_which_25 rfl (lv_at hl 1 rfl) ?_
        refine lv_iload_n hx hb d_M_which_26 rfl (lv_at hl 2 rfl) ?_
        refine z_callR (va_runS (As := [.int (nI j5)]) (rest := [.ref (mm 0)]) ⟨hx, hb, hml, hown, hts⟩ (c_M_base l D dT _ (nI j5)) ⟨callB_of 1 hts (gI gd_up gd_c q650) rfl rfl rfl (ht _ q10) (ht _ q648) hd_M_base ⟨Nat.le_of_ble_eq_true rfl, Nat.le_of_ble_eq_true rfl⟩, ht _ q649⟩ (z_preS hK) rfl rfl hl.1 rfl (lv_room (Nat.le_of_ble_eq_true rfl)) d_M_which_27 ⟨Nat.zero_le _, Nat.zero_le _⟩) (fun v62 hv61 => ?_)
        subst hv61
        rw [show (160 * nI j5 : Int32) = nI (160 * j5) from pk_mul 160 j5]
        refine lv_iconst (v := 1) hx hb d_M_which_30 (by decide) ?_
        refine lv_iadd hx hb d_M_which_31 ?_
        rw [show (((nI (160 * j5)) + 1) : Int32) = nI ((160 * j5) + 1) from nI_add (160 * j5) 1]
        refine z_callR (va_runV (C := "ValueTreesModel") (As := [.int (nI ((160 * j5) + 1))]) (rest := []) ⟨hx, hb, hml, hown, hts⟩ (c_M_byteOf l D dT _ mm wd lf rt tc ty F sz Wk wz dg dc sh hM ((160 * j5) + 1) (by omega) (hF _)) ⟨callB_of 1 hts (gI gd_up gd_c q670) rfl rfl rfl (ht _ q10) (ht _ q667) hd_M_byteOf ⟨Nat.le_of_ble_eq_true rfl, Nat.le_of_ble_eq_true rfl⟩, ht _ q669, ht _ qs29⟩ (z_preV hK (va_recv hK.1 hM.1 (ci := 10) (q0 := 0) rfl rfl)) rfl rfl hl.1 rfl (lv_room (Nat.le_of_ble_eq_true rfl)) d_M_which_32 ⟨Nat.zero_le _, Nat.zero_le _⟩) (fun v64 hv63 => ?_)
        subst hv63
        rw [hf1]
        refine lv_istore_n (lv' := [(3, .int (nI 5)), (2, .int (nI (tW (tb (vty v4))))), (0, .ref (mm 0)), (1, .int (nI j5))]) hx hb d_M_which_35 rfl hl (by decide) rfl (fun ls hl => ?_)
        refine lv_iload_n hx hb d_M_which_36 rfl (lv_at hl 0 rfl) ?_
        refine lv_iconst (v := 3) hx hb d_M_which_37 (by decide) ?_
        refine lv_icmp_eq (tgt := 52) hx hb d_M_which_38 (by decide) (fun c65 => absurd ((nI_eq (a := 5) (b := 3) (by omega) (by omega)).mp c65) (by omega)) (fun c65 => ?_)
        refine lv_iload_n hx hb d_M_which_41 rfl (lv_at hl 0 rfl) ?_
        refine lv_bipush (v := 6) hx hb d_M_which_42 (by decide) ?_
        refine lv_icmp_eq (tgt := 52) hx hb d_M_which_44 (by decide) (fun c66 => absurd ((nI_eq (a := 5) (b := 6) (by omega) (by omega)).mp c66) (by omega)) (fun c66 => ?_)
        refine lv_iload_n hx hb d_M_which_47 rfl (lv_at hl 0 rfl) ?_
        refine lv_iconst (v := 5) hx hb d_M_which_48 (by decide) ?_
        refine lv_icmp_ne (tgt := 56) hx hb d_M_which_49 (by decide) (fun c67 => absurd ((nI_eq (a := 5) (b := 5) (by omega) (by omega)).mpr (by omega)) c67) (fun c67 => ?_)
        refine lv_iconst (v := 0) hx hb d_M_which_52 (by decide) ?_
        refine lv_goto (tgt := 57) hx hb d_M_which_53 (by decide) ?_
        exact z_iretR hx hb hr hlocks d_M_which_57 (by unfold a_which; rw [hr3, ec9]; rfl)
      · have hf1 : F (160 * j5 + 1) = 8 := hfz.2.1
        refine lv_iload_n hx hb d_M_which_6 rfl (lv_at hl 0 rfl) ?_
        refine lv_iconst (v := 1) hx hb d_M_which_7 (by decide) ?_
        refine lv_icmp_eq (tgt := 25) hx hb d_M_which_8 (by decide) (fun c68 => absurd ((nI_eq (a := (tW (tb (vty v4)))) (b := 1) (by omega) (by omega)).mp c68) (by omega)) (fun c68 => ?_)
        refine lv_iload_n hx hb d_M_which_11 rfl (lv_at hl 0 rfl) ?_
        refine lv_bipush (v := 10) hx hb d_M_which_12 (by decide) ?_
        refine lv_icmp_eq (tgt := 25) hx hb d_M_which_14 (by decide) (fun c69 => absurd ((nI_eq (a := (tW (tb (vty v4)))) (b := 10) (by omega) (by omega)).mp c69) (by omega)) (fun c69 => ?_)
        refine lv_iload_n hx hb d_M_which_17 rfl (lv_at hl 0 rfl) ?_
        refine lv_bipush (v := 14) hx hb d_M_which_18 (by decide) ?_
        refine lv_icmp_eq (tgt := 25) hx hb d_M_which_20 (by decide) (fun c70 => ?_) (fun c70 => absurd ((nI_eq (a := (tW (tb (vty v4)))) (b := 14) (by omega) (by omega)).mpr (by omega)) c70)
        refine lv_aload_n hx hb d_M_which_25 rfl (lv_at hl 1 rfl) ?_
        refine lv_iload_n hx hb d_M_which_26 rfl (lv_at hl 2 rfl) ?_
        refine z_callR (va_runS (As := [.int (nI j5)]) (rest := [.ref (mm 0)]) ⟨hx, hb, hml, hown, hts⟩ (c_M_base l D dT _ (nI j5)) ⟨callB_of 1 hts (gI gd_up gd_c q650) rfl rfl rfl (ht _ q10) (ht _ q648) hd_M_base ⟨Nat.le_of_ble_eq_true rfl, Nat.le_of_ble_eq_true rfl⟩, ht _ q649⟩ (z_preS hK) rfl rfl hl.1 rfl (lv_room (Nat.le_of_ble_eq_true rfl)) d_M_which_27 ⟨Nat.zero_le _, Nat.zero_le _⟩) (fun v72 hv71 => ?_)
        subst hv71
        rw [show (160 * nI j5 : Int32) = nI (160 * j5) from pk_mul 160 j5]
        refine lv_iconst (v := 1) hx hb d_M_which_30 (by decide) ?_
        refine lv_iadd hx hb d_M_which_31 ?_
        rw [show (((nI (160 * j5)) + 1) : Int32) = nI ((160 * j5) + 1) from nI_add (160 * j5) 1]
        refine z_callR (va_runV (C := "ValueTreesModel") (As := [.int (nI ((160 * j5) + 1))]) (rest := []) ⟨hx, hb, hml, hown, hts⟩ (c_M_byteOf l D dT _ mm wd lf rt tc ty F sz Wk wz dg dc sh hM ((160 * j5) + 1) (by omega) (hF _)) ⟨callB_of 1 hts (gI gd_up gd_c q670) rfl rfl rfl (ht _ q10) (ht _ q667) hd_M_byteOf ⟨Nat.le_of_ble_eq_true rfl, Nat.le_of_ble_eq_true rfl⟩, ht _ q669, ht _ qs29⟩ (z_preV hK (va_recv hK.1 hM.1 (ci := 10) (q0 := 0) rfl rfl)) rfl rfl hl.1 rfl (lv_room (Nat.le_of_ble_eq_true rfl)) d_M_which_32 ⟨Nat.zero_le _, Nat.zero_le _⟩) (fun v74 hv73 => ?_)
        subst hv73
        rw [hf1]
        refine lv_istore_n (lv' := [(3, .int (nI 8)), (2, .int (nI (tW (tb (vty v4))))), (0, .ref (mm 0)), (1, .int (nI j5))]) hx hb d_M_which_35 rfl hl (by decide) rfl (fun ls hl => ?_)
        refine lv_iload_n hx hb d_M_which_36 rfl (lv_at hl 0 rfl) ?_
        refine lv_iconst (v := 3) hx hb d_M_which_37 (by decide) ?_
        refine lv_icmp_eq (tgt := 52) hx hb d_M_which_38 (by decide) (fun c75 => absurd ((nI_eq (a := 8) (b := 3) (by omega) (by omega)).mp c75) (by omega)) (fun c75 => ?_)
        refine lv_iload_n hx hb d_M_which_41 rfl (lv_at hl 0 rfl) ?_
        refine lv_bipush (v := 6) hx hb d_M_which_42 (by decide) ?_
        refine lv_icmp_eq (tgt := 52) hx hb d_M_which_44 (by decide) (fun c76 => absurd ((nI_eq (a := 8) (b := 6) (by omega) (by omega)).mp c76) (by omega)) (fun c76 => ?_)
        refine lv_iload_n hx hb d_M_which_47 rfl (lv_at hl 0 rfl) ?_
        refine lv_iconst (v := 5) hx hb d_M_which_48 (by decide) ?_
        refine lv_icmp_ne (tgt := 56) hx hb d_M_which_49 (by decide) (fun c77 => ?_) (fun c77 => absurd ((nI_eq (a := 8) (b := 5) (by omega) (by omega)).mp c77) (by omega))
        refine lv_iconst (v := 1) hx hb d_M_which_56 (by decide) ?_
        exact z_iretR hx hb hr hlocks d_M_which_57 (by unfold a_which; rw [hr3, ec9]; rfl)
    | mul x y =>
      obtain ⟨hword, hx9, hy9⟩ : tW (tb (vty v4)) = 11 ∧ wty tb x 0 (lt_ tb (vty v4)) ∧ wty tb y 1 (vty v4) := by
        rcases hc9 with ⟨-, a1, a2, a3⟩ | ⟨a1, -⟩ | ⟨a1, -⟩
        · exact ⟨a1, a2, a3⟩
        · exact absurd a1 (by decide)
        · exact absurd a1 (by decide)
      have hcm : cs (.mul x y) = cs x ++ cs y := by rw [cs_mul, eb_pow hx9]
      rw [f_mul, hcm, fAt_app] at hfz
      rw [l_mul, hcm, List.length_append] at hlz
      have hge := cs_ge hx9
      refine lv_iload_n hx hb d_M_which_6 rfl (lv_at hl 0 rfl) ?_
      refine lv_iconst (v := 1) hx hb d_M_which_7 (by decide) ?_
      refine lv_icmp_eq (tgt := 25) hx hb d_M_which_8 (by decide) (fun c78 => absurd ((nI_eq (a := (tW (tb (vty v4)))) (b := 1) (by omega) (by omega)).mp c78) (by omega)) (fun c78 => ?_)
      refine lv_iload_n hx hb d_M_which_11 rfl (lv_at hl 0 rfl) ?_
      refine lv_bipush (v := 10) hx hb d_M_which_12 (by decide) ?_
      refine lv_icmp_eq (tgt := 25) hx hb d_M_which_14 (by decide) (fun c79 => absurd ((nI_eq (a := (tW (tb (vty v4)))) (b := 10) (by omega) (by omega)).mp c79) (by omega)) (fun c79 => ?_)
      refine lv_iload_n hx hb d_M_which_17 rfl (lv_at hl 0 rfl) ?_
      refine lv_bipush (v := 14) hx hb d_M_which_18 (by decide) ?_
      refine lv_icmp_eq (tgt := 25) hx hb d_M_which_20 (by decide) (fun c80 => absurd ((nI_eq (a := (tW (tb (vty v4)))) (b := 14) (by omega) (by omega)).mp c80) (by omega)) (fun c80 => ?_)
      refine lv_iconst (v := (-1)) hx hb d_M_which_23 (by decide) ?_
      exact z_iretR hx hb hr hlocks d_M_which_24 (by unfold a_which; rw [hr3, ec9]; rfl)
    | pow c8 t8 =>
      exact absurd hc9.1 (by decide)
theorem part_no {RV : Nat → Option VT} {f w : Int32} (h : ¬ (w = 0 ∨ w = 1)) : o_part RV f w = none := by
  have h0 : ¬ w = 0 := fun q => h (Or.inl q)
  have h1 : ¬ w = 1 := fun q => h (Or.inr q)
  unfold o_part
  split
  · rw [if_neg h0]
  · rw [if_neg h0, if_neg h1]
  · rw [if_neg h0, if_neg h1]
  · rfl
abbrev b_M_part : ByteArray := prog_12_method_50_code
abbrev y_M_part : MethodName := ⟨"ValueTreesModel", "part", "(III)I"⟩
abbrev w_M_part : List Cond := .code y_M_part b_M_part 9 (Option.some .int) :: gt
theorem hd_M_part : (y_M_part).cls ≠ "java/lang/invoke/MethodHandle" ∧ (y_M_part).cls ≠ "java/lang/invoke/VarHandle" ∧ (parseMethodDescriptor (y_M_part).desc).map (fun d => d.parameters.length) = some 3 := by decide +kernel
theorem d_M_part_0 : decode b_M_part 0 = .ok (.iload_n 1, 1) := by decide +kernel
theorem d_M_part_1 : decode b_M_part 1 = .ok (.invokestatic 66, 3) := by decide +kernel
theorem d_M_part_4 : decode b_M_part 4 = .ok (.ifCond .eq 20, 3) := by decide +kernel
theorem d_M_part_7 : decode b_M_part 7 = .ok (.aload_n 0, 1) := by decide +kernel
theorem d_M_part_8 : decode b_M_part 8 = .ok (.iload_n 2, 1) := by decide +kernel
theorem d_M_part_9 : decode b_M_part 9 = .ok (.invokevirtual 69, 3) := by decide +kernel
theorem d_M_part_12 : decode b_M_part 12 = .ok (.ifCond .eq 12, 3) := by decide +kernel
theorem d_M_part_15 : decode b_M_part 15 = .ok (.iload_n 3, 1) := by decide +kernel
theorem d_M_part_16 : decode b_M_part 16 = .ok (.ifCond .lt 8, 3) := by decide +kernel
theorem d_M_part_19 : decode b_M_part 19 = .ok (.iload_n 3, 1) := by decide +kernel
theorem d_M_part_20 : decode b_M_part 20 = .ok (.iconst 1, 1) := by decide +kernel
theorem d_M_part_21 : decode b_M_part 21 = .ok (.if_icmp .le 5, 3) := by decide +kernel
theorem d_M_part_24 : decode b_M_part 24 = .ok (.iconst (-1), 1) := by decide +kernel
theorem d_M_part_25 : decode b_M_part 25 = .ok (.ireturn, 1) := by decide +kernel
theorem d_M_part_26 : decode b_M_part 26 = .ok (.aload_n 0, 1) := by decide +kernel
theorem d_M_part_27 : decode b_M_part 27 = .ok (.getfield 19, 3) := by decide +kernel
theorem d_M_part_30 : decode b_M_part 30 = .ok (.iload_n 2, 1) := by decide +kernel
theorem d_M_part_31 : decode b_M_part 31 = .ok (.iaload, 1) := by decide +kernel
theorem d_M_part_32 : decode b_M_part 32 = .ok (.istore 4, 2) := by decide +kernel
theorem d_M_part_34 : decode b_M_part 34 = .ok (.iload_n 2, 1) := by decide +kernel
theorem d_M_part_35 : decode b_M_part 35 = .ok (.invokestatic 112, 3) := by decide +kernel
theorem d_M_part_38 : decode b_M_part 38 = .ok (.istore 5, 2) := by decide +kernel
theorem d_M_part_40 : decode b_M_part 40 = .ok (.iload 5, 2) := by decide +kernel
theorem d_M_part_42 : decode b_M_part 42 = .ok (.aload_n 0, 1) := by decide +kernel
theorem d_M_part_43 : decode b_M_part 43 = .ok (.getfield 26, 3) := by decide +kernel
theorem d_M_part_46 : decode b_M_part 46 = .ok (.iload_n 2, 1) := by decide +kernel
theorem d_M_part_47 : decode b_M_part 47 = .ok (.iaload, 1) := by decide +kernel
theorem d_M_part_48 : decode b_M_part 48 = .ok (.iadd, 1) := by decide +kernel
theorem d_M_part_49 : decode b_M_part 49 = .ok (.istore 6, 2) := by decide +kernel
theorem d_M_part_51 : decode b_M_part 51 = .ok (.aload_n 0, 1) := by decide +kernel
theorem d_M_part_52 : decode b_M_part 52 = .ok (.getfield 7, 3) := by decide +kernel
theorem d_M_part_55 : decode b_M_part 55 = .ok (.iload 4, 2) := by decide +kernel
theorem d_M_part_57 : decode b_M_part 57 = .ok (.iaload, 1) := by decide +kernel
theorem d_M_part_58 : decode b_M_part 58 = .ok (.tableswitch 285 10 18 #[50, 198, 285, 285, 90, 285, 285, 285, 139], 50) := by decide +kernel
theorem d_M_part_108 : decode b_M_part 108 = .ok (.iload_n 3, 1) := by decide +kernel
theorem d_M_part_109 : decode b_M_part 109 = .ok (.ifCond .gt 16, 3) := by decide +kernel
theorem d_M_part_112 : decode b_M_part 112 = .ok (.aload_n 0, 1) := by decide +kernel
theorem d_M_part_113 : decode b_M_part 113 = .ok (.iload 5, 2) := by decide +kernel
theorem d_M_part_115 : decode b_M_part 115 = .ok (.iconst 1, 1) := by decide +kernel
theorem d_M_part_116 : decode b_M_part 116 = .ok (.iadd, 1) := by decide +kernel
theorem d_M_part_117 : decode b_M_part 117 = .ok (.invokevirtual 72, 3) := by decide +kernel
theorem d_M_part_120 : decode b_M_part 120 = .ok (.bipush 6, 2) := by decide +kernel
theorem d_M_part_122 : decode b_M_part 122 = .ok (.if_icmp .ne 7, 3) := by decide +kernel
theorem d_M_part_125 : decode b_M_part 125 = .ok (.iconst (-1), 1) := by decide +kernel
theorem d_M_part_126 : decode b_M_part 126 = .ok (.goto 21, 3) := by decide +kernel
theorem d_M_part_129 : decode b_M_part 129 = .ok (.aload_n 0, 1) := by decide +kernel
theorem d_M_part_130 : decode b_M_part 130 = .ok (.iload_n 1, 1) := by decide +kernel
theorem d_M_part_131 : decode b_M_part 131 = .ok (.aload_n 0, 1) := by decide +kernel
theorem d_M_part_132 : decode b_M_part 132 = .ok (.getfield 13, 3) := by decide +kernel
theorem d_M_part_135 : decode b_M_part 135 = .ok (.iload 4, 2) := by decide +kernel
theorem d_M_part_137 : decode b_M_part 137 = .ok (.iaload, 1) := by decide +kernel
theorem d_M_part_138 : decode b_M_part 138 = .ok (.iload 5, 2) := by decide +kernel
theorem d_M_part_140 : decode b_M_part 140 = .ok (.iconst 2, 1) := by decide +kernel
theorem d_M_part_141 : decode b_M_part 141 = .ok (.iadd, 1) := by decide +kernel
theorem d_M_part_142 : decode b_M_part 142 = .ok (.iload 6, 2) := by decide +kernel
theorem d_M_part_144 : decode b_M_part 144 = .ok (.invokevirtual 170, 3) := by decide +kernel
theorem d_M_part_147 : decode b_M_part 147 = .ok (.ireturn, 1) := by decide +kernel
theorem d_M_part_148 : decode b_M_part 148 = .ok (.iload_n 3, 1) := by decide +kernel
theorem d_M_part_149 : decode b_M_part 149 = .ok (.ifCond .le 7, 3) := by decide +kernel
theorem d_M_part_152 : decode b_M_part 152 = .ok (.iconst (-1), 1) := by decide +kernel
theorem d_M_part_153 : decode b_M_part 153 = .ok (.goto 43, 3) := by decide +kernel
theorem d_M_part_156 : decode b_M_part 156 = .ok (.aload_n 0, 1) := by decide +kernel
theorem d_M_part_157 : decode b_M_part 157 = .ok (.iload_n 1, 1) := by decide +kernel
theorem d_M_part_158 : decode b_M_part 158 = .ok (.aload_n 0, 1) := by decide +kernel
theorem d_M_part_159 : decode b_M_part 159 = .ok (.iload 5, 2) := by decide +kernel
theorem d_M_part_161 : decode b_M_part 161 = .ok (.iconst 1, 1) := by decide +kernel
theorem d_M_part_162 : decode b_M_part 162 = .ok (.iadd, 1) := by decide +kernel
theorem d_M_part_163 : decode b_M_part 163 = .ok (.invokevirtual 72, 3) := by decide +kernel
theorem d_M_part_166 : decode b_M_part 166 = .ok (.iconst 5, 1) := by decide +kernel
theorem d_M_part_167 : decode b_M_part 167 = .ok (.if_icmp .ne 13, 3) := by decide +kernel
theorem d_M_part_170 : decode b_M_part 170 = .ok (.aload_n 0, 1) := by decide +kernel
theorem d_M_part_171 : decode b_M_part 171 = .ok (.getfield 13, 3) := by decide +kernel
theorem d_M_part_174 : decode b_M_part 174 = .ok (.iload 4, 2) := by decide +kernel
theorem d_M_part_176 : decode b_M_part 176 = .ok (.iaload, 1) := by decide +kernel
theorem d_M_part_177 : decode b_M_part 177 = .ok (.goto 10, 3) := by decide +kernel
theorem d_M_part_180 : decode b_M_part 180 = .ok (.aload_n 0, 1) := by decide +kernel
theorem d_M_part_181 : decode b_M_part 181 = .ok (.getfield 16, 3) := by decide +kernel
theorem d_M_part_184 : decode b_M_part 184 = .ok (.iload 4, 2) := by decide +kernel
theorem d_M_part_186 : decode b_M_part 186 = .ok (.iaload, 1) := by decide +kernel
theorem d_M_part_187 : decode b_M_part 187 = .ok (.iload 5, 2) := by decide +kernel
theorem d_M_part_189 : decode b_M_part 189 = .ok (.iconst 2, 1) := by decide +kernel
theorem d_M_part_190 : decode b_M_part 190 = .ok (.iadd, 1) := by decide +kernel
theorem d_M_part_191 : decode b_M_part 191 = .ok (.iload 6, 2) := by decide +kernel
theorem d_M_part_193 : decode b_M_part 193 = .ok (.invokevirtual 170, 3) := by decide +kernel
theorem d_M_part_196 : decode b_M_part 196 = .ok (.ireturn, 1) := by decide +kernel
theorem d_M_part_197 : decode b_M_part 197 = .ok (.aload_n 0, 1) := by decide +kernel
theorem d_M_part_198 : decode b_M_part 198 = .ok (.aload_n 0, 1) := by decide +kernel
theorem d_M_part_199 : decode b_M_part 199 = .ok (.getfield 13, 3) := by decide +kernel
theorem d_M_part_202 : decode b_M_part 202 = .ok (.iload 4, 2) := by decide +kernel
theorem d_M_part_204 : decode b_M_part 204 = .ok (.iaload, 1) := by decide +kernel
theorem d_M_part_205 : decode b_M_part 205 = .ok (.iload 5, 2) := by decide +kernel
theorem d_M_part_207 : decode b_M_part 207 = .ok (.iconst 2, 1) := by decide +kernel
theorem d_M_part_208 : decode b_M_part 208 = .ok (.iadd, 1) := by decide +kernel
theorem d_M_part_209 : decode b_M_part 209 = .ok (.invokevirtual 78, 3) := by decide +kernel
theorem d_M_part_212 : decode b_M_part 212 = .ok (.istore 7, 2) := by decide +kernel
theorem d_M_part_214 : decode b_M_part 214 = .ok (.iload_n 3, 1) := by decide +kernel
theorem d_M_part_215 : decode b_M_part 215 = .ok (.ifCond .ne 24, 3) := by decide +kernel
theorem d_M_part_218 : decode b_M_part 218 = .ok (.aload_n 0, 1) := by decide +kernel
theorem d_M_part_219 : decode b_M_part 219 = .ok (.iload_n 1, 1) := by decide +kernel
theorem d_M_part_220 : decode b_M_part 220 = .ok (.aload_n 0, 1) := by decide +kernel
theorem d_M_part_221 : decode b_M_part 221 = .ok (.getfield 13, 3) := by decide +kernel
theorem d_M_part_224 : decode b_M_part 224 = .ok (.iload 4, 2) := by decide +kernel
theorem d_M_part_226 : decode b_M_part 226 = .ok (.iaload, 1) := by decide +kernel
theorem d_M_part_227 : decode b_M_part 227 = .ok (.iload 5, 2) := by decide +kernel
theorem d_M_part_229 : decode b_M_part 229 = .ok (.iconst 2, 1) := by decide +kernel
theorem d_M_part_230 : decode b_M_part 230 = .ok (.iadd, 1) := by decide +kernel
theorem d_M_part_231 : decode b_M_part 231 = .ok (.iload 7, 2) := by decide +kernel
theorem d_M_part_233 : decode b_M_part 233 = .ok (.invokevirtual 170, 3) := by decide +kernel
theorem d_M_part_236 : decode b_M_part 236 = .ok (.goto 19, 3) := by decide +kernel
theorem d_M_part_239 : decode b_M_part 239 = .ok (.aload_n 0, 1) := by decide +kernel
theorem d_M_part_240 : decode b_M_part 240 = .ok (.iload_n 1, 1) := by decide +kernel
theorem d_M_part_241 : decode b_M_part 241 = .ok (.aload_n 0, 1) := by decide +kernel
theorem d_M_part_242 : decode b_M_part 242 = .ok (.getfield 16, 3) := by decide +kernel
theorem d_M_part_245 : decode b_M_part 245 = .ok (.iload 4, 2) := by decide +kernel
theorem d_M_part_247 : decode b_M_part 247 = .ok (.iaload, 1) := by decide +kernel
theorem d_M_part_248 : decode b_M_part 248 = .ok (.iload 7, 2) := by decide +kernel
theorem d_M_part_250 : decode b_M_part 250 = .ok (.iload 6, 2) := by decide +kernel
theorem d_M_part_252 : decode b_M_part 252 = .ok (.invokevirtual 170, 3) := by decide +kernel
theorem d_M_part_255 : decode b_M_part 255 = .ok (.ireturn, 1) := by decide +kernel
theorem d_M_part_256 : decode b_M_part 256 = .ok (.aload_n 0, 1) := by decide +kernel
theorem d_M_part_257 : decode b_M_part 257 = .ok (.getfield 26, 3) := by decide +kernel
theorem d_M_part_260 : decode b_M_part 260 = .ok (.iload_n 2, 1) := by decide +kernel
theorem d_M_part_261 : decode b_M_part 261 = .ok (.iaload, 1) := by decide +kernel
theorem d_M_part_262 : decode b_M_part 262 = .ok (.iconst 5, 1) := by decide +kernel
theorem d_M_part_263 : decode b_M_part 263 = .ok (.if_icmp .ne 5, 3) := by decide +kernel
theorem d_M_part_266 : decode b_M_part 266 = .ok (.iconst (-1), 1) := by decide +kernel
theorem d_M_part_267 : decode b_M_part 267 = .ok (.ireturn, 1) := by decide +kernel
theorem d_M_part_268 : decode b_M_part 268 = .ok (.aload_n 0, 1) := by decide +kernel
theorem d_M_part_269 : decode b_M_part 269 = .ok (.aload_n 0, 1) := by decide +kernel
theorem d_M_part_270 : decode b_M_part 270 = .ok (.getfield 13, 3) := by decide +kernel
theorem d_M_part_273 : decode b_M_part 273 = .ok (.iload 4, 2) := by decide +kernel
theorem d_M_part_275 : decode b_M_part 275 = .ok (.iaload, 1) := by decide +kernel
theorem d_M_part_276 : decode b_M_part 276 = .ok (.iload 5, 2) := by decide +kernel
theorem d_M_part_278 : decode b_M_part 278 = .ok (.iconst 5, 1) := by decide +kernel
theorem d_M_part_279 : decode b_M_part 279 = .ok (.iadd, 1) := by decide +kernel
theorem d_M_part_280 : decode b_M_part 280 = .ok (.invokevirtual 78, 3) := by decide +kernel
theorem d_M_part_283 : decode b_M_part 283 = .ok (.istore 8, 2) := by decide +kernel
theorem d_M_part_285 : decode b_M_part 285 = .ok (.iload_n 3, 1) := by decide +kernel
theorem d_M_part_286 : decode b_M_part 286 = .ok (.ifCond .ne 22, 3) := by decide +kernel
theorem d_M_part_289 : decode b_M_part 289 = .ok (.aload_n 0, 1) := by decide +kernel
theorem d_M_part_290 : decode b_M_part 290 = .ok (.iload_n 1, 1) := by decide +kernel
theorem d_M_part_291 : decode b_M_part 291 = .ok (.aload_n 0, 1) := by decide +kernel
theorem d_M_part_292 : decode b_M_part 292 = .ok (.getfield 13, 3) := by decide +kernel
theorem d_M_part_295 : decode b_M_part 295 = .ok (.iload 4, 2) := by decide +kernel
theorem d_M_part_297 : decode b_M_part 297 = .ok (.iaload, 1) := by decide +kernel
theorem d_M_part_298 : decode b_M_part 298 = .ok (.iload 5, 2) := by decide +kernel
theorem d_M_part_300 : decode b_M_part 300 = .ok (.iconst 5, 1) := by decide +kernel
theorem d_M_part_301 : decode b_M_part 301 = .ok (.iadd, 1) := by decide +kernel
theorem d_M_part_302 : decode b_M_part 302 = .ok (.iload 8, 2) := by decide +kernel
theorem d_M_part_304 : decode b_M_part 304 = .ok (.invokevirtual 170, 3) := by decide +kernel
theorem d_M_part_307 : decode b_M_part 307 = .ok (.ireturn, 1) := by decide +kernel
theorem d_M_part_308 : decode b_M_part 308 = .ok (.aload_n 0, 1) := by decide +kernel
theorem d_M_part_309 : decode b_M_part 309 = .ok (.iconst 0, 1) := by decide +kernel
theorem d_M_part_310 : decode b_M_part 310 = .ok (.putfield 98, 3) := by decide +kernel
theorem d_M_part_313 : decode b_M_part 313 = .ok (.aload_n 0, 1) := by decide +kernel
theorem d_M_part_314 : decode b_M_part 314 = .ok (.iconst 2, 1) := by decide +kernel
theorem d_M_part_315 : decode b_M_part 315 = .ok (.invokevirtual 101, 3) := by decide +kernel
theorem d_M_part_318 : decode b_M_part 318 = .ok (.aload_n 0, 1) := by decide +kernel
theorem d_M_part_319 : decode b_M_part 319 = .ok (.iload 6, 2) := by decide +kernel
theorem d_M_part_321 : decode b_M_part 321 = .ok (.iload 8, 2) := by decide +kernel
theorem d_M_part_323 : decode b_M_part 323 = .ok (.isub, 1) := by decide +kernel
theorem d_M_part_324 : decode b_M_part 324 = .ok (.invokevirtual 131, 3) := by decide +kernel
theorem d_M_part_327 : decode b_M_part 327 = .ok (.aload_n 0, 1) := by decide +kernel
theorem d_M_part_328 : decode b_M_part 328 = .ok (.iload 8, 2) := by decide +kernel
theorem d_M_part_330 : decode b_M_part 330 = .ok (.iload 6, 2) := by decide +kernel
theorem d_M_part_332 : decode b_M_part 332 = .ok (.invokevirtual 139, 3) := by decide +kernel
theorem d_M_part_335 : decode b_M_part 335 = .ok (.aload_n 0, 1) := by decide +kernel
theorem d_M_part_336 : decode b_M_part 336 = .ok (.iload_n 1, 1) := by decide +kernel
theorem d_M_part_337 : decode b_M_part 337 = .ok (.iload 4, 2) := by decide +kernel
theorem d_M_part_339 : decode b_M_part 339 = .ok (.invokevirtual 121, 3) := by decide +kernel
theorem d_M_part_342 : decode b_M_part 342 = .ok (.ireturn, 1) := by decide +kernel
theorem d_M_part_343 : decode b_M_part 343 = .ok (.iconst (-1), 1) := by decide +kernel
theorem d_M_part_344 : decode b_M_part 344 = .ok (.ireturn, 1) := by decide +kernel
set_option maxHeartbeats 4000000 in
set_option maxRecDepth 100000 in
theorem p_M_part (l : Launch) (D : va_G) (dT : Nat → ClassId) (H : Heap) (mm : Nat → Nat) (tb : Nat → TR) (tc : Nat) (RV : Nat → Option VT) (hI : mI D dT mm tb tc RV H) (r f w : Int32) : Met l y_M_part w_M_part ({ frames := 210, cells := 0, slots := 0, locals := 5400 }) (z_P D dT [.ref (mm 0), .int r, .int f, .int w] H) (z_Q (mA mm) (fun v H1 => v = some (.int (kp RV r (o_part RV f w)).1) ∧ mI D dT mm tb tc (kp RV r (o_part RV f w)).2 H1)) 0 0 (mA mm) := by
  obtain ⟨wd, lf, rt, ty, F, sz, Wk, wz, dg, dc, sh, hM, hO, hT, hR, hWk⟩ := hI
  have hF := hR.1
  have htc := hO.1
  have htc10 := hO.2.1
  refine Met.ofW (cc := b_M_part) (maxL := 9) (ret := (Option.some .int)) (by decide) rfl ?_
  intro p e s m args below meth c s₁ B hml hv
  obtain ⟨rfl, rfl, hK⟩ := hv
  have hx := B.exec
  have hb := B.bytes
  have hr := B.returns
  have hts := atoms_spec (ws := w_M_part) B.pre
  have ht : ∀ w9 ∈ gt, w9.before [.ref (mm 0), .int r, .int f, .int w].toArray s = true := fun w9 h => hts w9 (List.mem_cons_of_mem _ h)
  have hown : s.vm.findClass "ValueTreesModel" = some m.cls := findClass_of_methodNamed B.named
  have hlocks := B.notSynchronized
  have hS : va_S (mA mm) s.heap s.heap [] := va_S.rf
  have hl := lv_entry ([.ref (mm 0), .int r, .int f, .int w]) (n := 9) (Nat.le_of_ble_eq_true rfl)
  rw [lg_entry_eq]
  generalize (lg_sl ([.ref (mm 0), .int r, .int f, .int w]) ++ List.replicate (9 - (lg_sl ([.ref (mm 0), .int r, .int f, .int w])).length) Slot.unset).toArray = ls at hl ⊢
  have hl : lv_has ls 9 [(0, .ref (mm 0)), (1, .int r), (2, .int f), (3, .int w)] := hl
  refine lv_iload_n hx hb d_M_part_0 rfl (lv_at hl 1 rfl) ?_
  refine z_callR (va_runS (As := [.int r]) (rest := []) ⟨hx, hb, hml, hown, hts⟩ (c_M_isRegister l D dT _ r) ⟨callB_of 1 hts (gI gd_up gd_c q619) rfl rfl rfl (ht _ q10) (ht _ q617) hd_M_isRegister ⟨Nat.le_of_ble_eq_true rfl, Nat.le_of_ble_eq_true rfl⟩, ht _ q618⟩ (z_preS hK) rfl rfl hl.1 rfl (lv_room (Nat.le_of_ble_eq_true rfl)) d_M_part_1 ⟨Nat.zero_le _, Nat.zero_le _⟩) (fun v2 hv1 => ?_)
  have hv1 : v2 = .int (if inR r then 1 else 0) := hv1
  rcases Classical.em (inR r) with hq3 | hq3
  · rw [if_pos hq3] at hv1
    subst hv1
    refine lv_if_eq (tgt := 24) hx hb d_M_part_4 (by decide) (fun c4 => absurd c4 (by decide)) (fun _ => ?_)
    obtain ⟨j, hj, rfl⟩ := inR_of hq3
    refine lv_aload_n hx hb d_M_part_7 rfl (lv_at hl 0 rfl) ?_
    refine lv_iload_n hx hb d_M_part_8 rfl (lv_at hl 2 rfl) ?_
    refine z_callR (va_runV (C := "ValueTreesModel") (As := [.int f]) (rest := []) ⟨hx, hb, hml, hown, hts⟩ (c_M_hasValue l D dT _ mm wd lf rt tc ty F sz Wk wz dg dc sh hM tb hO hT RV hR f) ⟨callB_of 1 hts (gI gd_up gd_c q662) rfl rfl rfl (ht _ q10) (ht _ q659) hd_M_hasValue ⟨Nat.le_of_ble_eq_true rfl, Nat.le_of_ble_eq_true rfl⟩, ht _ q661, ht _ qs27⟩ (z_preV hK (va_recv hK.1 hM.1 (ci := 10) (q0 := 0) rfl rfl)) rfl rfl hl.1 rfl (lv_room (Nat.le_of_ble_eq_true rfl)) d_M_part_9 ⟨Nat.zero_le _, Nat.zero_le _⟩) (fun v6 hv5 => ?_)
    have hv5 : v6 = .int (if (rgs RV f).isSome = true then 1 else 0) := hv5
    cases hr7 : rgs RV f with
    | none =>
      rw [hr7] at hv5
      subst hv5
      try dsimp only
      refine W.eq (g2 := F0 m 12 ls [.int 0]) rfl ?_
      refine lv_if_eq (tgt := 24) hx hb d_M_part_12 (by decide) (fun _ => ?_) (fun c10 => absurd c10 (by decide))
      refine lv_iconst (v := (-1)) hx hb d_M_part_24 (by decide) ?_
      refine z_iretQ hx hb hr hlocks d_M_part_25 hS (Nat.le_refl _) (Nat.le_refl _) ?_
      have eo : o_part RV f w = none := by unfold o_part; rw [hr7]
      rw [eo]
      exact ⟨rfl, _, _, _, _, _, _, _, _, _, _, _, hM, hO, hT, hR, hWk⟩
    | some v8 =>
      rw [hr7] at hv5
      subst hv5
      refine W.eq (g2 := F0 m 12 ls [.int 1]) rfl ?_
      obtain ⟨j9, hj9, rfl, hV8⟩ := rgs_some hr7
      obtain ⟨ht8, et8, hw8, es8, hn8, hf8⟩ := mR_some hR hj9 hV8
      refine lv_if_eq (tgt := 24) hx hb d_M_part_12 (by decide) (fun c11 => absurd c11 (by decide)) (fun _ => ?_)
      refine lv_iload_n hx hb d_M_part_15 rfl (lv_at hl 3 rfl) ?_
      refine lv_if_lt (tgt := 24) hx hb d_M_part_16 (by decide) (fun c12 => ?_) (fun c12 => ?_)
      · refine lv_iconst (v := (-1)) hx hb d_M_part_24 (by decide) ?_
        refine z_iretQ hx hb hr hlocks d_M_part_25 hS (Nat.le_refl _) (Nat.le_refl _) ?_
        have eo : o_part RV (nI j9) w = none := part_no (n01 (Or.inl c12))
        rw [eo]
        exact ⟨rfl, _, _, _, _, _, _, _, _, _, _, _, hM, hO, hT, hR, hWk⟩
      · refine lv_iload_n hx hb d_M_part_19 rfl (lv_at hl 3 rfl) ?_
        refine lv_iconst (v := 1) hx hb d_M_part_20 (by decide) ?_
        refine lv_icmp_le (tgt := 26) hx hb d_M_part_21 (by decide) (fun c13 => ?_) (fun c13 => ?_)
        · have hwl := (hO.2.2 _ ht8).1
          have hpw := (hO.2.2 _ ht8).2.2.2.2.2.2.2.2.1
          rcases s01 c12 c13 with rfl | rfl
          · obtain ⟨c9, ec9, hc9⟩ := wty_pow hw8
            have hfz := hf8
            have hlz := hn8
            rw [ec9] at hfz hlz
            cases c9 with
            | num z =>
              have hword : tW (tb (vty v8)) = 2 ∨ tW (tb (vty v8)) = 3 ∨ tW (tb (vty v8)) = 4 ∨ tW (tb (vty v8)) = 8 := hc9.2.1
              rcases hword with hword | hword | hword | hword
              · have hlv : (cs v8).length = (cs v8).length := rfl
                refine lv_aload_n hx hb d_M_part_26 rfl (lv_at hl 0 rfl) ?_
                refine va_get (D := D) (ci := 10) (v := .ref (mm 4)) (C := "ValueTreesModel") (T := T_M) (N := 12) hx hb ht in_M hown hK.1 hM.1 0 rfl rfl 4 (by decide) (ht _ q543) (fun _ h9 => h9) rfl d_M_part_27 ?_
                refine lv_iload_n hx hb d_M_part_30 rfl (lv_at hl 2 rfl) ?_
                refine z_iald hx hb hK (hM.1 4 _ rfl) j9 rfl (by omega) (by decide) d_M_part_31 ?_
                rw [et8]
                refine lv_istore (lv' := [(4, .int (nI (vty v8))), (0, .ref (mm 0)), (1, .int (nI j)), (2, .int (nI j9)), (3, .int 0)]) hx hb d_M_part_32 hl (by decide) rfl (fun ls hl => ?_)
                refine lv_iload_n hx hb d_M_part_34 rfl (lv_at hl 3 rfl) ?_
                refine z_callR (va_runS (As := [.int (nI j9)]) (rest := []) ⟨hx, hb, hml, hown, hts⟩ (c_M_base l D dT _ (nI j9)) ⟨callB_of 1 hts (gI gd_up gd_c q650) rfl rfl rfl (ht _ q10) (ht _ q648) hd_M_base ⟨Nat.le_of_ble_eq_true rfl, Nat.le_of_ble_eq_true rfl⟩, ht _ q649⟩ (z_preS hK) rfl rfl hl.1 rfl (lv_room (Nat.le_of_ble_eq_true rfl)) d_M_part_35 ⟨Nat.zero_le _, Nat.zero_le _⟩) (fun v15 hv14 => ?_)
                subst hv14
                rw [show (160 * nI j9 : Int32) = nI (160 * j9) from pk_mul 160 j9]
                refine lv_istore (lv' := [(5, .int (nI (160 * j9))), (4, .int (nI (vty v8))), (0, .ref (mm 0)), (1, .int (nI j)), (2, .int (nI j9)), (3, .int 0)]) hx hb d_M_part_38 hl (by decide) rfl (fun ls hl => ?_)
                refine lv_iload hx hb d_M_part_40 (lv_at hl 0 rfl) ?_
                refine lv_aload_n hx hb d_M_part_42 rfl (lv_at hl 2 rfl) ?_
                refine va_get (D := D) (ci := 10) (v := .ref (mm 6)) (C := "ValueTreesModel") (T := T_M) (N := 12) hx hb ht in_M hown hK.1 hM.1 0 rfl rfl 6 (by decide) (ht _ q545) (fun _ h9 => h9) rfl d_M_part_43 ?_
                refine lv_iload_n hx hb d_M_part_46 rfl (lv_at hl 4 rfl) ?_
                refine z_iald hx hb hK (hM.1 6 _ rfl) j9 rfl (by omega) (by decide) d_M_part_47 ?_
                rw [es8]
                refine lv_iadd hx hb d_M_part_48 ?_
                rw [show (((nI (160 * j9)) + (nI (cs v8).length)) : Int32) = nI ((160 * j9) + ((cs v8).length)) from nI_add (160 * j9) ((cs v8).length)]
                refine lv_istore (lv' := [(6, .int (nI ((160 * j9) + ((cs v8).length)))), (5, .int (nI (160 * j9))), (4, .int (nI (vty v8))), (0, .ref (mm 0)), (1, .int (nI j)), (2, .int (nI j9)), (3, .int 0)]) hx hb d_M_part_49 hl (by decide) rfl (fun ls hl => ?_)
                refine lv_aload_n hx hb d_M_part_51 rfl (lv_at hl 3 rfl) ?_
                refine va_get (D := D) (ci := 10) (v := .ref (mm 1)) (C := "ValueTreesModel") (T := T_M) (N := 12) hx hb ht in_M hown hK.1 hM.1 0 rfl rfl 0 (by decide) (ht _ q539) (fun _ h9 => h9) rfl d_M_part_52 ?_
                refine lv_iload hx hb d_M_part_55 (lv_at hl 2 rfl) ?_
                refine z_iald hx hb hK (hM.1 1 _ rfl) (vty v8) rfl (by omega) (by decide) d_M_part_57 ?_
                rw [(hT _ ht8).1]
                refine lv_tableOut (tgt := 343) hx hb d_M_part_58 (by rw [show ((nI (tW (tb (vty v8)))) : Int32) = 2 from (by rw [hword]; rfl)]; decide) (by decide) ?_
                refine lv_iconst (v := (-1)) hx hb d_M_part_343 (by decide) ?_
                refine z_iretQ hx hb hr hlocks d_M_part_344 hS (Nat.le_refl _) (Nat.le_refl _) ?_
                have eo : o_part RV (nI j9) 0 = none := by unfold o_part; rw [rgs_nI hj9, hV8, ec9]; try rfl
                rw [eo]
                exact ⟨rfl, _, _, _, _, _, _, _, _, _, _, _, hM, hO, hT, hR, hWk⟩
              · have hlv : (cs v8).length = (cs v8).length := rfl
                refine lv_aload_n hx hb d_M_part_26 rfl (lv_at hl 0 rfl) ?_
                refine va_get (D := D) (ci := 10) (v := .ref (mm 4)) (C := "ValueTreesModel") (T := T_M) (N := 12) hx hb ht in_M hown hK.1 hM.1 0 rfl rfl 4 (by decide) (ht _ q543) (fun _ h9 => h9) rfl d_M_part_27 ?_
                refine lv_iload_n hx hb d_M_part_30 rfl (lv_at hl 2 rfl) ?_
                refine z_iald hx hb hK (hM.1 4 _ rfl) j9 rfl (by omega) (by decide) d_M_part_31 ?_
                rw [et8]
                refine lv_istore (lv' := [(4, .int (nI (vty v8))), (0, .ref (mm 0)), (1, .int (nI j)), (2, .int (nI j9)), (3, .int 0)]) hx hb d_M_part_32 hl (by decide) rfl (fun ls hl => ?_)
                refine lv_iload_n hx hb d_M_part_34 rfl (lv_at hl 3 rfl) ?_
                refine z_callR (va_runS (As := [.int (nI j9)]) (rest := []) ⟨hx, hb, hml, hown, hts⟩ (c_M_base l D dT _ (nI j9)) ⟨callB_of 1 hts (gI gd_up gd_c q650) rfl rfl rfl (ht _ q10) (ht _ q648) hd_M_base ⟨Nat.le_of_ble_eq_true rfl, Nat.le_of_ble_eq_true rfl⟩, ht _ q649⟩ (z_preS hK) rfl rfl hl.1 rfl (lv_room (Nat.le_of_ble_eq_true rfl)) d_M_part_35 ⟨Nat.zero_le _, Nat.zero_le _⟩) (fun v17 hv16 => ?_)
                subst hv16
                rw [show (160 * nI j9 : Int32) = nI (160 * j9) from pk_mul 160 j9]
                refine lv_istore (lv' := [(5, .int (nI (160 * j9))), (4, .int (nI (vty v8))), (0, .ref (mm 0)), (1, .int (nI j)), (2, .int (nI j9)), (3, .int 0)]) hx hb d_M_part_38 hl (by decide) rfl (fun ls hl => ?_)
                refine lv_iload hx hb d_M_part_40 (lv_at hl 0 rfl) ?_
                refine lv_aload_n hx hb d_M_part_42 rfl (lv_at hl 2 rfl) ?_
                refine va_get (D := D) (ci := 10) (v := .ref (mm 6)) (C := "ValueTreesModel") (T := T_M) (N := 12) hx hb ht in_M hown hK.1 hM.1 0 rfl rfl 6 (by decide) (ht _ q545) (fun _ h9 => h9) rfl d_M_part_43 ?_
                refine lv_iload_n hx hb d_M_part_46 rfl (lv_at hl 4 rfl) ?_
                refine z_iald hx hb hK (hM.1 6 _ rfl) j9 rfl (by omega) (by decide) d_M_part_47 ?_
                rw [es8]
                refine lv_iadd hx hb d_M_part_48 ?_
                rw [show (((nI (160 * j9)) + (nI (cs v8).length)) : Int32) = nI ((160 * j9) + ((cs v8).length)) from nI_add (160 * j9) ((cs v8).length)]
                refine lv_istore (lv' := [(6, .int (nI ((160 * j9) + ((cs v8).length)))), (5, .int (nI (160 * j9))), (4, .int (nI (vty v8))), (0, .ref (mm 0)), (1, .int (nI j)), (2, .int (nI j9)), (3, .int 0)]) hx hb d_M_part_49 hl (by decide) rfl (fun ls hl => ?_)
                refine lv_aload_n hx hb d_M_part_51 rfl (lv_at hl 3 rfl) ?_
                refine va_get (D := D) (ci := 10) (v := .ref (mm 1)) (C := "ValueTreesModel") (T := T_M) (N := 12) hx hb ht in_M hown hK.1 hM.1 0 rfl rfl 0 (by decide) (ht _ q539) (fun _ h9 => h9) rfl d_M_part_52 ?_
                refine lv_iload hx hb d_M_part_55 (lv_at hl 2 rfl) ?_
                refine z_iald hx hb hK (hM.1 1 _ rfl) (vty v8) rfl (by omega) (by decide) d_M_part_57 ?_
                rw [(hT _ ht8).1]
                refine lv_tableOut (tgt := 343) hx hb d_M_part_58 (by rw [show ((nI (tW (tb (vty v8)))) : Int32) = 3 from (by rw [hword]; rfl)]; decide) (by decide) ?_
                refine lv_iconst (v := (-1)) hx hb d_M_part_343 (by decide) ?_
                refine z_iretQ hx hb hr hlocks d_M_part_344 hS (Nat.le_refl _) (Nat.le_refl _) ?_
                have eo : o_part RV (nI j9) 0 = none := by unfold o_part; rw [rgs_nI hj9, hV8, ec9]; try rfl
                rw [eo]
                exact ⟨rfl, _, _, _, _, _, _, _, _, _, _, _, hM, hO, hT, hR, hWk⟩
              · have hlv : (cs v8).length = (cs v8).length := rfl
                refine lv_aload_n hx hb d_M_part_26 rfl (lv_at hl 0 rfl) ?_
                refine va_get (D := D) (ci := 10) (v := .ref (mm 4)) (C := "ValueTreesModel") (T := T_M) (N := 12) hx hb ht in_M hown hK.1 hM.1 0 rfl rfl 4 (by decide) (ht _ q543) (fun _ h9 => h9) rfl d_M_part_27 ?_
                refine lv_iload_n hx hb d_M_part_30 rfl (lv_at hl 2 rfl) ?_
                refine z_iald hx hb hK (hM.1 4 _ rfl) j9 rfl (by omega) (by decide) d_M_part_31 ?_
                rw [et8]
                refine lv_istore (lv' := [(4, .int (nI (vty v8))), (0, .ref (mm 0)), (1, .int (nI j)), (2, .int (nI j9)), (3, .int 0)]) hx hb d_M_part_32 hl (by decide) rfl (fun ls hl => ?_)
                refine lv_iload_n hx hb d_M_part_34 rfl (lv_at hl 3 rfl) ?_
                refine z_callR (va_runS (As := [.int (nI j9)]) (rest := []) ⟨hx, hb, hml, hown, hts⟩ (c_M_base l D dT _ (nI j9)) ⟨callB_of 1 hts (gI gd_up gd_c q650) rfl rfl rfl (ht _ q10) (ht _ q648) hd_M_base ⟨Nat.le_of_ble_eq_true rfl, Nat.le_of_ble_eq_true rfl⟩, ht _ q649⟩ (z_preS hK) rfl rfl hl.1 rfl (lv_room (Nat.le_of_ble_eq_true rfl)) d_M_part_35 ⟨Nat.zero_le _, Nat.zero_le _⟩) (fun v19 hv18 => ?_)
                subst hv18
                rw [show (160 * nI j9 : Int32) = nI (160 * j9) from pk_mul 160 j9]
                refine lv_istore (lv' := [(5, .int (nI (160 * j9))), (4, .int (nI (vty v8))), (0, .ref (mm 0)), (1, .int (nI j)), (2, .int (nI j9)), (3, .int 0)]) hx hb d_M_part_38 hl (by decide) rfl (fun ls hl => ?_)
                refine lv_iload hx hb d_M_part_40 (lv_at hl 0 rfl) ?_
                refine lv_aload_n hx hb d_M_part_42 rfl (lv_at hl 2 rfl) ?_
                refine va_get (D := D) (ci := 10) (v := .ref (mm 6)) (C := "ValueTreesModel") (T := T_M) (N := 12) hx hb ht in_M hown hK.1 hM.1 0 rfl rfl 6 (by decide) (ht _ q545) (fun _ h9 => h9) rfl d_M_part_43 ?_
                refine lv_iload_n hx hb d_M_part_46 rfl (lv_at hl 4 rfl) ?_
                refine z_iald hx hb hK (hM.1 6 _ rfl) j9 rfl (by omega) (by decide) d_M_part_47 ?_
                rw [es8]
                refine lv_iadd hx hb d_M_part_48 ?_
                rw [show (((nI (160 * j9)) + (nI (cs v8).length)) : Int32) = nI ((160 * j9) + ((cs v8).length)) from nI_add (160 * j9) ((cs v8).length)]
                refine lv_istore (lv' := [(6, .int (nI ((160 * j9) + ((cs v8).length)))), (5, .int (nI (160 * j9))), (4, .int (nI (vty v8))), (0, .ref (mm 0)), (1, .int (nI j)), (2, .int (nI j9)), (3, .int 0)]) hx hb d_M_part_49 hl (by decide) rfl (fun ls hl => ?_)
                refine lv_aload_n hx hb d_M_part_51 rfl (lv_at hl 3 rfl) ?_
                refine va_get (D := D) (ci := 10) (v := .ref (mm 1)) (C := "ValueTreesModel") (T := T_M) (N := 12) hx hb ht in_M hown hK.1 hM.1 0 rfl rfl 0 (by decide) (ht _ q539) (fun _ h9 => h9) rfl d_M_part_52 ?_
                refine lv_iload hx hb d_M_part_55 (lv_at hl 2 rfl) ?_
                refine z_iald hx hb hK (hM.1 1 _ rfl) (vty v8) rfl (by omega) (by decide) d_M_part_57 ?_
                rw [(hT _ ht8).1]
                refine lv_tableOut (tgt := 343) hx hb d_M_part_58 (by rw [show ((nI (tW (tb (vty v8)))) : Int32) = 4 from (by rw [hword]; rfl)]; decide) (by decide) ?_
                refine lv_iconst (v := (-1)) hx hb d_M_part_343 (by decide) ?_
                refine z_iretQ hx hb hr hlocks d_M_part_344 hS (Nat.le_refl _) (Nat.le_refl _) ?_
                have eo : o_part RV (nI j9) 0 = none := by unfold o_part; rw [rgs_nI hj9, hV8, ec9]; try rfl
                rw [eo]
                exact ⟨rfl, _, _, _, _, _, _, _, _, _, _, _, hM, hO, hT, hR, hWk⟩
              · have hlv : (cs v8).length = (cs v8).length := rfl
                refine lv_aload_n hx hb d_M_part_26 rfl (lv_at hl 0 rfl) ?_
                refine va_get (D := D) (ci := 10) (v := .ref (mm 4)) (C := "ValueTreesModel") (T := T_M) (N := 12) hx hb ht in_M hown hK.1 hM.1 0 rfl rfl 4 (by decide) (ht _ q543) (fun _ h9 => h9) rfl d_M_part_27 ?_
                refine lv_iload_n hx hb d_M_part_30 rfl (lv_at hl 2 rfl) ?_
                refine z_iald hx hb hK (hM.1 4 _ rfl) j9 rfl (by omega) (by decide) d_M_part_31 ?_
                rw [et8]
                refine lv_istore (lv' := [(4, .int (nI (vty v8))), (0, .ref (mm 0)), (1, .int (nI j)), (2, .int (nI j9)), (3, .int 0)]) hx hb d_M_part_32 hl (by decide) rfl (fun ls hl => ?_)
                refine lv_iload_n hx hb d_M_part_34 rfl (lv_at hl 3 rfl) ?_
                refine z_callR (va_runS (As := [.int (nI j9)]) (rest := []) ⟨hx, hb, hml, hown, hts⟩ (c_M_base l D dT _ (nI j9)) ⟨callB_of 1 hts (gI gd_up gd_c q650) rfl rfl rfl (ht _ q10) (ht _ q648) hd_M_base ⟨Nat.le_of_ble_eq_true rfl, Nat.le_of_ble_eq_true rfl⟩, ht _ q649⟩ (z_preS hK) rfl rfl hl.1 rfl (lv_room (Nat.le_of_ble_eq_true rfl)) d_M_part_35 ⟨Nat.zero_le _, Nat.zero_le _⟩) (fun v21 hv20 => ?_)
                subst hv20
                rw [show (160 * nI j9 : Int32) = nI (160 * j9) from pk_mul 160 j9]
                refine lv_istore (lv' := [(5, .int (nI (160 * j9))), (4, .int (nI (vty v8))), (0, .ref (mm 0)), (1, .int (nI j)), (2, .int (nI j9)), (3, .int 0)]) hx hb d_M_part_38 hl (by decide) rfl (fun ls hl => ?_)
                refine lv_iload hx hb d_M_part_40 (lv_at hl 0 rfl) ?_
                refine lv_aload_n hx hb d_M_part_42 rfl (lv_at hl 2 rfl) ?_
                refine va_get (D := D) (ci := 10) (v := .ref (mm 6)) (C := "ValueTreesModel") (T := T_M) (N := 12) hx hb ht in_M hown hK.1 hM.1 0 rfl rfl 6 (by decide) (ht _ q545) (fun _ h9 => h9) rfl d_M_part_43 ?_
                refine lv_iload_n hx hb d_M_part_46 rfl (lv_at hl 4 rfl) ?_
                refine z_iald hx hb hK (hM.1 6 _ rfl) j9 rfl (by omega) (by decide) d_M_part_47 ?_
                rw [es8]
                refine lv_iadd hx hb d_M_part_48 ?_
                rw [show (((nI (160 * j9)) + (nI (cs v8).length)) : Int32) = nI ((160 * j9) + ((cs v8).length)) from nI_add (160 * j9) ((cs v8).length)]
                refine lv_istore (lv' := [(6, .int (nI ((160 * j9) + ((cs v8).length)))), (5, .int (nI (160 * j9))), (4, .int (nI (vty v8))), (0, .ref (mm 0)), (1, .int (nI j)), (2, .int (nI j9)), (3, .int 0)]) hx hb d_M_part_49 hl (by decide) rfl (fun ls hl => ?_)
                refine lv_aload_n hx hb d_M_part_51 rfl (lv_at hl 3 rfl) ?_
                refine va_get (D := D) (ci := 10) (v := .ref (mm 1)) (C := "ValueTreesModel") (T := T_M) (N := 12) hx hb ht in_M hown hK.1 hM.1 0 rfl rfl 0 (by decide) (ht _ q539) (fun _ h9 => h9) rfl d_M_part_52 ?_
                refine lv_iload hx hb d_M_part_55 (lv_at hl 2 rfl) ?_
                refine z_iald hx hb hK (hM.1 1 _ rfl) (vty v8) rfl (by omega) (by decide) d_M_part_57 ?_
                rw [(hT _ ht8).1]
                refine lv_tableOut (tgt := 343) hx hb d_M_part_58 (by rw [show ((nI (tW (tb (vty v8)))) : Int32) = 8 from (by rw [hword]; rfl)]; decide) (by decide) ?_
                refine lv_iconst (v := (-1)) hx hb d_M_part_343 (by decide) ?_
                refine z_iretQ hx hb hr hlocks d_M_part_344 hS (Nat.le_refl _) (Nat.le_refl _) ?_
                have eo : o_part RV (nI j9) 0 = none := by unfold o_part; rw [rgs_nI hj9, hV8, ec9]; try rfl
                rw [eo]
                exact ⟨rfl, _, _, _, _, _, _, _, _, _, _, _, hM, hO, hT, hR, hWk⟩
            | natCast k =>
              have hword : tW (tb (vty v8)) = 5 ∨ tW (tb (vty v8)) = 6 := hc9.2.1
              have hk8 : k % 16 ≤ 8 := hc9.2.2.1
              rw [f_row] at hfz
              rw [l_row] at hlz
              rcases hword with hword | hword
              · have hlv : (cs v8).length = (cs v8).length := rfl
                refine lv_aload_n hx hb d_M_part_26 rfl (lv_at hl 0 rfl) ?_
                refine va_get (D := D) (ci := 10) (v := .ref (mm 4)) (C := "ValueTreesModel") (T := T_M) (N := 12) hx hb ht in_M hown hK.1 hM.1 0 rfl rfl 4 (by decide) (ht _ q543) (fun _ h9 => h9) rfl d_M_part_27 ?_
                refine lv_iload_n hx hb d_M_part_30 rfl (lv_at hl 2 rfl) ?_
                refine z_iald hx hb hK (hM.1 4 _ rfl) j9 rfl (by omega) (by decide) d_M_part_31 ?_
                rw [et8]
                refine lv_istore (lv' := [(4, .int (nI (vty v8))), (0, .ref (mm 0)), (1, .int (nI j)), (2, .int (nI j9)), (3, .int 0)]) hx hb d_M_part_32 hl (by decide) rfl (fun ls hl => ?_)
                refine lv_iload_n hx hb d_M_part_34 rfl (lv_at hl 3 rfl) ?_
                refine z_callR (va_runS (As := [.int (nI j9)]) (rest := []) ⟨hx, hb, hml, hown, hts⟩ (c_M_base l D dT _ (nI j9)) ⟨callB_of 1 hts (gI gd_up gd_c q650) rfl rfl rfl (ht _ q10) (ht _ q648) hd_M_base ⟨Nat.le_of_ble_eq_true rfl, Nat.le_of_ble_eq_true rfl⟩, ht _ q649⟩ (z_preS hK) rfl rfl hl.1 rfl (lv_room (Nat.le_of_ble_eq_true rfl)) d_M_part_35 ⟨Nat.zero_le _, Nat.zero_le _⟩) (fun v23 hv22 => ?_)
                subst hv22
                rw [show (160 * nI j9 : Int32) = nI (160 * j9) from pk_mul 160 j9]
                refine lv_istore (lv' := [(5, .int (nI (160 * j9))), (4, .int (nI (vty v8))), (0, .ref (mm 0)), (1, .int (nI j)), (2, .int (nI j9)), (3, .int 0)]) hx hb d_M_part_38 hl (by decide) rfl (fun ls hl => ?_)
                refine lv_iload hx hb d_M_part_40 (lv_at hl 0 rfl) ?_
                refine lv_aload_n hx hb d_M_part_42 rfl (lv_at hl 2 rfl) ?_
                refine va_get (D := D) (ci := 10) (v := .ref (mm 6)) (C := "ValueTreesModel") (T := T_M) (N := 12) hx hb ht in_M hown hK.1 hM.1 0 rfl rfl 6 (by decide) (ht _ q545) (fun _ h9 => h9) rfl d_M_part_43 ?_
                refine lv_iload_n hx hb d_M_part_46 rfl (lv_at hl 4 rfl) ?_
                refine z_iald hx hb hK (hM.1 6 _ rfl) j9 rfl (by omega) (by decide) d_M_part_47 ?_
                rw [es8]
                refine lv_iadd hx hb d_M_part_48 ?_
                rw [show (((nI (160 * j9)) + (nI (cs v8).length)) : Int32) = nI ((160 * j9) + ((cs v8).length)) from nI_add (160 * j9) ((cs v8).length)]
                refine lv_istore (lv' := [(6, .int (nI ((160 * j9) + ((cs v8).length)))), (5, .int (nI (160 * j9))), (4, .int (nI (vty v8))), (0, .ref (mm 0)), (1, .int (nI j)), (2, .int (nI j9)), (3, .int 0)]) hx hb d_M_part_49 hl (by decide) rfl (fun ls hl => ?_)
                refine lv_aload_n hx hb d_M_part_51 rfl (lv_at hl 3 rfl) ?_
                refine va_get (D := D) (ci := 10) (v := .ref (mm 1)) (C := "ValueTreesModel") (T := T_M) (N := 12) hx hb ht in_M hown hK.1 hM.1 0 rfl rfl 0 (by decide) (ht _ q539) (fun _ h9 => h9) rfl d_M_part_52 ?_
                refine lv_iload hx hb d_M_part_55 (lv_at hl 2 rfl) ?_
                refine z_iald hx hb hK (hM.1 1 _ rfl) (vty v8) rfl (by omega) (by decide) d_M_part_57 ?_
                rw [(hT _ ht8).1]
                refine lv_tableOut (tgt := 343) hx hb d_M_part_58 (by rw [show ((nI (tW (tb (vty v8)))) : Int32) = 5 from (by rw [hword]; rfl)]; decide) (by decide) ?_
                refine lv_iconst (v := (-1)) hx hb d_M_part_343 (by decide) ?_
                refine z_iretQ hx hb hr hlocks d_M_part_344 hS (Nat.le_refl _) (Nat.le_refl _) ?_
                have eo : o_part RV (nI j9) 0 = none := by unfold o_part; rw [rgs_nI hj9, hV8, ec9]; try rfl
                rw [eo]
                exact ⟨rfl, _, _, _, _, _, _, _, _, _, _, _, hM, hO, hT, hR, hWk⟩
              · have hlv : (cs v8).length = (cs v8).length := rfl
                refine lv_aload_n hx hb d_M_part_26 rfl (lv_at hl 0 rfl) ?_
                refine va_get (D := D) (ci := 10) (v := .ref (mm 4)) (C := "ValueTreesModel") (T := T_M) (N := 12) hx hb ht in_M hown hK.1 hM.1 0 rfl rfl 4 (by decide) (ht _ q543) (fun _ h9 => h9) rfl d_M_part_27 ?_
                refine lv_iload_n hx hb d_M_part_30 rfl (lv_at hl 2 rfl) ?_
                refine z_iald hx hb hK (hM.1 4 _ rfl) j9 rfl (by omega) (by decide) d_M_part_31 ?_
                rw [et8]
                refine lv_istore (lv' := [(4, .int (nI (vty v8))), (0, .ref (mm 0)), (1, .int (nI j)), (2, .int (nI j9)), (3, .int 0)]) hx hb d_M_part_32 hl (by decide) rfl (fun ls hl => ?_)
                refine lv_iload_n hx hb d_M_part_34 rfl (lv_at hl 3 rfl) ?_
                refine z_callR (va_runS (As := [.int (nI j9)]) (rest := []) ⟨hx, hb, hml, hown, hts⟩ (c_M_base l D dT _ (nI j9)) ⟨callB_of 1 hts (gI gd_up gd_c q650) rfl rfl rfl (ht _ q10) (ht _ q648) hd_M_base ⟨Nat.le_of_ble_eq_true rfl, Nat.le_of_ble_eq_true rfl⟩, ht _ q649⟩ (z_preS hK) rfl rfl hl.1 rfl (lv_room (Nat.le_of_ble_eq_true rfl)) d_M_part_35 ⟨Nat.zero_le _, Nat.zero_le _⟩) (fun v25 hv24 => ?_)
                subst hv24
                rw [show (160 * nI j9 : Int32) = nI (160 * j9) from pk_mul 160 j9]
                refine lv_istore (lv' := [(5, .int (nI (160 * j9))), (4, .int (nI (vty v8))), (0, .ref (mm 0)), (1, .int (nI j)), (2, .int (nI j9)), (3, .int 0)]) hx hb d_M_part_38 hl (by decide) rfl (fun ls hl => ?_)
                refine lv_iload hx hb d_M_part_40 (lv_at hl 0 rfl) ?_
                refine lv_aload_n hx hb d_M_part_42 rfl (lv_at hl 2 rfl) ?_
                refine va_get (D := D) (ci := 10) (v := .ref (mm 6)) (C := "ValueTreesModel") (T := T_M) (N := 12) hx hb ht in_M hown hK.1 hM.1 0 rfl rfl 6 (by decide) (ht _ q545) (fun _ h9 => h9) rfl d_M_part_43 ?_
                refine lv_iload_n hx hb d_M_part_46 rfl (lv_at hl 4 rfl) ?_
                refine z_iald hx hb hK (hM.1 6 _ rfl) j9 rfl (by omega) (by decide) d_M_part_47 ?_
                rw [es8]
                refine lv_iadd hx hb d_M_part_48 ?_
                rw [show (((nI (160 * j9)) + (nI (cs v8).length)) : Int32) = nI ((160 * j9) + ((cs v8).length)) from nI_add (160 * j9) ((cs v8).length)]
                refine lv_istore (lv' := [(6, .int (nI ((160 * j9) + ((cs v8).length)))), (5, .int (nI (160 * j9))), (4, .int (nI (vty v8))), (0, .ref (mm 0)), (1, .int (nI j)), (2, .int (nI j9)), (3, .int 0)]) hx hb d_M_part_49 hl (by decide) rfl (fun ls hl => ?_)
                refine lv_aload_n hx hb d_M_part_51 rfl (lv_at hl 3 rfl) ?_
                refine va_get (D := D) (ci := 10) (v := .ref (mm 1)) (C := "ValueTreesModel") (T := T_M) (N := 12) hx hb ht in_M hown hK.1 hM.1 0 rfl rfl 0 (by decide) (ht _ q539) (fun _ h9 => h9) rfl d_M_part_52 ?_
                refine lv_iload hx hb d_M_part_55 (lv_at hl 2 rfl) ?_
                refine z_iald hx hb hK (hM.1 1 _ rfl) (vty v8) rfl (by omega) (by decide) d_M_part_57 ?_
                rw [(hT _ ht8).1]
                refine lv_tableOut (tgt := 343) hx hb d_M_part_58 (by rw [show ((nI (tW (tb (vty v8)))) : Int32) = 6 from (by rw [hword]; rfl)]; decide) (by decide) ?_
                refine lv_iconst (v := (-1)) hx hb d_M_part_343 (by decide) ?_
                refine z_iretQ hx hb hr hlocks d_M_part_344 hS (Nat.le_refl _) (Nat.le_refl _) ?_
                have eo : o_part RV (nI j9) 0 = none := by unfold o_part; rw [rgs_nI hj9, hV8, ec9]; try rfl
                rw [eo]
                exact ⟨rfl, _, _, _, _, _, _, _, _, _, _, _, hM, hO, hT, hR, hWk⟩
            | intCast k =>
              have hword : tW (tb (vty v8)) = 11 := by simp only [wty] at hc9; omega
              have hl5 : (cs v8).length = 5 := by rw [ec9, l_nil]
              have hlv : (cs v8).length = (cs v8).length := rfl
              obtain ⟨hLk, hltk, hlpk⟩ := tl_some hO ht8 (by omega)
              have elk : lf (vty v8) = nI (lt_ tb (vty v8)) := by rw [(hT _ ht8).2.1, hLk]; rfl
              refine lv_aload_n hx hb d_M_part_26 rfl (lv_at hl 0 rfl) ?_
              refine va_get (D := D) (ci := 10) (v := .ref (mm 4)) (C := "ValueTreesModel") (T := T_M) (N := 12) hx hb ht in_M hown hK.1 hM.1 0 rfl rfl 4 (by decide) (ht _ q543) (fun _ h9 => h9) rfl d_M_part_27 ?_
              refine lv_iload_n hx hb d_M_part_30 rfl (lv_at hl 2 rfl) ?_
              refine z_iald hx hb hK (hM.1 4 _ rfl) j9 rfl (by omega) (by decide) d_M_part_31 ?_
              rw [et8]
              refine lv_istore (lv' := [(4, .int (nI (vty v8))), (0, .ref (mm 0)), (1, .int (nI j)), (2, .int (nI j9)), (3, .int 0)]) hx hb d_M_part_32 hl (by decide) rfl (fun ls hl => ?_)
              refine lv_iload_n hx hb d_M_part_34 rfl (lv_at hl 3 rfl) ?_
              refine z_callR (va_runS (As := [.int (nI j9)]) (rest := []) ⟨hx, hb, hml, hown, hts⟩ (c_M_base l D dT _ (nI j9)) ⟨callB_of 1 hts (gI gd_up gd_c q650) rfl rfl rfl (ht _ q10) (ht _ q648) hd_M_base ⟨Nat.le_of_ble_eq_true rfl, Nat.le_of_ble_eq_true rfl⟩, ht _ q649⟩ (z_preS hK) rfl rfl hl.1 rfl (lv_room (Nat.le_of_ble_eq_true rfl)) d_M_part_35 ⟨Nat.zero_le _, Nat.zero_le _⟩) (fun v27 hv26 => ?_)
              subst hv26
              rw [show (160 * nI j9 : Int32) = nI (160 * j9) from pk_mul 160 j9]
              refine lv_istore (lv' := [(5, .int (nI (160 * j9))), (4, .int (nI (vty v8))), (0, .ref (mm 0)), (1, .int (nI j)), (2, .int (nI j9)), (3, .int 0)]) hx hb d_M_part_38 hl (by decide) rfl (fun ls hl => ?_)
              refine lv_iload hx hb d_M_part_40 (lv_at hl 0 rfl) ?_
              refine lv_aload_n hx hb d_M_part_42 rfl (lv_at hl 2 rfl) ?_
              refine va_get (D := D) (ci := 10) (v := .ref (mm 6)) (C := "ValueTreesModel") (T := T_M) (N := 12) hx hb ht in_M hown hK.1 hM.1 0 rfl rfl 6 (by decide) (ht _ q545) (fun _ h9 => h9) rfl d_M_part_43 ?_
              refine lv_iload_n hx hb d_M_part_46 rfl (lv_at hl 4 rfl) ?_
              refine z_iald hx hb hK (hM.1 6 _ rfl) j9 rfl (by omega) (by decide) d_M_part_47 ?_
              rw [(show sz j9 = nI 5 from by rw [es8, hl5])]
              refine lv_iadd hx hb d_M_part_48 ?_
              rw [show (((nI (160 * j9)) + (nI 5)) : Int32) = nI ((160 * j9) + 5) from nI_add (160 * j9) 5]
              refine lv_istore (lv' := [(6, .int (nI ((160 * j9) + 5))), (5, .int (nI (160 * j9))), (4, .int (nI (vty v8))), (0, .ref (mm 0)), (1, .int (nI j)), (2, .int (nI j9)), (3, .int 0)]) hx hb d_M_part_49 hl (by decide) rfl (fun ls hl => ?_)
              refine lv_aload_n hx hb d_M_part_51 rfl (lv_at hl 3 rfl) ?_
              refine va_get (D := D) (ci := 10) (v := .ref (mm 1)) (C := "ValueTreesModel") (T := T_M) (N := 12) hx hb ht in_M hown hK.1 hM.1 0 rfl rfl 0 (by decide) (ht _ q539) (fun _ h9 => h9) rfl d_M_part_52 ?_
              refine lv_iload hx hb d_M_part_55 (lv_at hl 2 rfl) ?_
              refine z_iald hx hb hK (hM.1 1 _ rfl) (vty v8) rfl (by omega) (by decide) d_M_part_57 ?_
              rw [(hT _ ht8).1]
              refine lv_tableIn (tgt := 256) hx hb d_M_part_58 (by rw [show ((nI (tW (tb (vty v8)))) : Int32) = 11 from (by rw [hword]; rfl)]; decide) (by rw [show ((nI (tW (tb (vty v8)))) : Int32) = 11 from (by rw [hword]; rfl)]; decide) (by rw [show ((nI (tW (tb (vty v8)))) : Int32) = 11 from (by rw [hword]; rfl)]; rfl) (by decide) ?_
              refine lv_aload_n hx hb d_M_part_256 rfl (lv_at hl 3 rfl) ?_
              refine va_get (D := D) (ci := 10) (v := .ref (mm 6)) (C := "ValueTreesModel") (T := T_M) (N := 12) hx hb ht in_M hown hK.1 hM.1 0 rfl rfl 6 (by decide) (ht _ q545) (fun _ h9 => h9) rfl d_M_part_257 ?_
              refine lv_iload_n hx hb d_M_part_260 rfl (lv_at hl 5 rfl) ?_
              refine z_iald hx hb hK (hM.1 6 _ rfl) j9 rfl (by omega) (by decide) d_M_part_261 ?_
              rw [(show sz j9 = nI 5 from by rw [es8, hl5])]
              refine lv_iconst (v := 5) hx hb d_M_part_262 (by decide) ?_
              refine lv_icmp_ne (tgt := 268) hx hb d_M_part_263 (by decide) (fun c28 => absurd ((nI_eq (a := 5) (b := 5) (by omega) (by omega)).mpr (by omega)) c28) (fun c28 => ?_)
              refine lv_iconst (v := (-1)) hx hb d_M_part_266 (by decide) ?_
              refine z_iretQ hx hb hr hlocks d_M_part_267 hS (Nat.le_refl _) (Nat.le_refl _) ?_
              have eo : o_part RV (nI j9) 0 = none := by unfold o_part; rw [rgs_nI hj9, hV8, ec9]; try rfl
              rw [eo]
              exact ⟨rfl, _, _, _, _, _, _, _, _, _, _, _, hM, hO, hT, hR, hWk⟩
            | var i =>
              rw [f_var] at hfz
              rcases hc9.2 with ⟨hword, hi9⟩ | ⟨hword, hi9⟩ | ⟨hword, hi9⟩
              · subst hi9
                have hlv : (cs v8).length = (cs v8).length := rfl
                refine lv_aload_n hx hb d_M_part_26 rfl (lv_at hl 0 rfl) ?_
                refine va_get (D := D) (ci := 10) (v := .ref (mm 4)) (C := "ValueTreesModel") (T := T_M) (N := 12) hx hb ht in_M hown hK.1 hM.1 0 rfl rfl 4 (by decide) (ht _ q543) (fun _ h9 => h9) rfl d_M_part_27 ?_
                refine lv_iload_n hx hb d_M_part_30 rfl (lv_at hl 2 rfl) ?_
                refine z_iald hx hb hK (hM.1 4 _ rfl) j9 rfl (by omega) (by decide) d_M_part_31 ?_
                rw [et8]
                refine lv_istore (lv' := [(4, .int (nI (vty v8))), (0, .ref (mm 0)), (1, .int (nI j)), (2, .int (nI j9)), (3, .int 0)]) hx hb d_M_part_32 hl (by decide) rfl (fun ls hl => ?_)
                refine lv_iload_n hx hb d_M_part_34 rfl (lv_at hl 3 rfl) ?_
                refine z_callR (va_runS (As := [.int (nI j9)]) (rest := []) ⟨hx, hb, hml, hown, hts⟩ (c_M_base l D dT _ (nI j9)) ⟨callB_of 1 hts (gI gd_up gd_c q650) rfl rfl rfl (ht _ q10) (ht _ q648) hd_M_base ⟨Nat.le_of_ble_eq_true rfl, Nat.le_of_ble_eq_true rfl⟩, ht _ q649⟩ (z_preS hK) rfl rfl hl.1 rfl (lv_room (Nat.le_of_ble_eq_true rfl)) d_M_part_35 ⟨Nat.zero_le _, Nat.zero_le _⟩) (fun v30 hv29 => ?_)
                subst hv29
                rw [show (160 * nI j9 : Int32) = nI (160 * j9) from pk_mul 160 j9]
                refine lv_istore (lv' := [(5, .int (nI (160 * j9))), (4, .int (nI (vty v8))), (0, .ref (mm 0)), (1, .int (nI j)), (2, .int (nI j9)), (3, .int 0)]) hx hb d_M_part_38 hl (by decide) rfl (fun ls hl => ?_)
                refine lv_iload hx hb d_M_part_40 (lv_at hl 0 rfl) ?_
                refine lv_aload_n hx hb d_M_part_42 rfl (lv_at hl 2 rfl) ?_
                refine va_get (D := D) (ci := 10) (v := .ref (mm 6)) (C := "ValueTreesModel") (T := T_M) (N := 12) hx hb ht in_M hown hK.1 hM.1 0 rfl rfl 6 (by decide) (ht _ q545) (fun _ h9 => h9) rfl d_M_part_43 ?_
                refine lv_iload_n hx hb d_M_part_46 rfl (lv_at hl 4 rfl) ?_
                refine z_iald hx hb hK (hM.1 6 _ rfl) j9 rfl (by omega) (by decide) d_M_part_47 ?_
                rw [es8]
                refine lv_iadd hx hb d_M_part_48 ?_
                rw [show (((nI (160 * j9)) + (nI (cs v8).length)) : Int32) = nI ((160 * j9) + ((cs v8).length)) from nI_add (160 * j9) ((cs v8).length)]
                refine lv_istore (lv' := [(6, .int (nI ((160 * j9) + ((cs v8).length)))), (5, .int (nI (160 * j9))), (4, .int (nI (vty v8))), (0, .ref (mm 0)), (1, .int (nI j)), (2, .int (nI j9)), (3, .int 0)]) hx hb d_M_part_49 hl (by decide) rfl (fun ls hl => ?_)
                refine lv_aload_n hx hb d_M_part_51 rfl (lv_at hl 3 rfl) ?_
                refine va_get (D := D) (ci := 10) (v := .ref (mm 1)) (C := "ValueTreesModel") (T := T_M) (N := 12) hx hb ht in_M hown hK.1 hM.1 0 rfl rfl 0 (by decide) (ht _ q539) (fun _ h9 => h9) rfl d_M_part_52 ?_
                refine lv_iload hx hb d_M_part_55 (lv_at hl 2 rfl) ?_
                refine z_iald hx hb hK (hM.1 1 _ rfl) (vty v8) rfl (by omega) (by decide) d_M_part_57 ?_
                rw [(hT _ ht8).1]
                refine lv_tableOut (tgt := 343) hx hb d_M_part_58 (by rw [show ((nI (tW (tb (vty v8)))) : Int32) = 0 from (by rw [hword]; rfl)]; decide) (by decide) ?_
                refine lv_iconst (v := (-1)) hx hb d_M_part_343 (by decide) ?_
                refine z_iretQ hx hb hr hlocks d_M_part_344 hS (Nat.le_refl _) (Nat.le_refl _) ?_
                have eo : o_part RV (nI j9) 0 = none := by unfold o_part; rw [rgs_nI hj9, hV8, ec9]; try rfl
                rw [eo]
                exact ⟨rfl, _, _, _, _, _, _, _, _, _, _, _, hM, hO, hT, hR, hWk⟩
              · have ht1 : (vty v8) = 1 := (is_word hO ht8 (by omega)).trans hword
                rcases hi9 with rfl | rfl
                · have hf1 : F (160 * j9 + 1) = 3 := by rw [hfz.2, ht1]; rfl
                  have hlv : (cs v8).length = (cs v8).length := rfl
                  refine lv_aload_n hx hb d_M_part_26 rfl (lv_at hl 0 rfl) ?_
                  refine va_get (D := D) (ci := 10) (v := .ref (mm 4)) (C := "ValueTreesModel") (T := T_M) (N := 12) hx hb ht in_M hown hK.1 hM.1 0 rfl rfl 4 (by decide) (ht _ q543) (fun _ h9 => h9) rfl d_M_part_27 ?_
                  refine lv_iload_n hx hb d_M_part_30 rfl (lv_at hl 2 rfl) ?_
                  refine z_iald hx hb hK (hM.1 4 _ rfl) j9 rfl (by omega) (by decide) d_M_part_31 ?_
                  rw [et8]
                  refine lv_istore (lv' := [(4, .int (nI (vty v8))), (0, .ref (mm 0)), (1, .int (nI j)), (2, .int (nI j9)), (3, .int 0)]) hx hb d_M_part_32 hl (by decide) rfl (fun ls hl => ?_)
                  refine lv_iload_n hx hb d_M_part_34 rfl (lv_at hl 3 rfl) ?_
                  refine z_callR (va_runS (As := [.int (nI j9)]) (rest := []) ⟨hx, hb, hml, hown, hts⟩ (c_M_base l D dT _ (nI j9)) ⟨callB_of 1 hts (gI gd_up gd_c q650) rfl rfl rfl (ht _ q10) (ht _ q648) hd_M_base ⟨Nat.le_of_ble_eq_true rfl, Nat.le_of_ble_eq_true rfl⟩, ht _ q649⟩ (z_preS hK) rfl rfl hl.1 rfl (lv_room (Nat.le_of_ble_eq_true rfl)) d_M_part_35 ⟨Nat.zero_le _, Nat.zero_le _⟩) (fun v32 hv31 => ?_)
                  subst hv31
                  rw [show (160 * nI j9 : Int32) = nI (160 * j9) from pk_mul 160 j9]
                  refine lv_istore (lv' := [(5, .int (nI (160 * j9))), (4, .int (nI (vty v8))), (0, .ref (mm 0)), (1, .int (nI j)), (2, .int (nI j9)), (3, .int 0)]) hx hb d_M_part_38 hl (by decide) rfl (fun ls hl => ?_)
                  refine lv_iload hx hb d_M_part_40 (lv_at hl 0 rfl) ?_
                  refine lv_aload_n hx hb d_M_part_42 rfl (lv_at hl 2 rfl) ?_
                  refine va_get (D := D) (ci := 10) (v := .ref (mm 6)) (C := "ValueTreesModel") (T := T_M) (N := 12) hx hb ht in_M hown hK.1 hM.1 0 rfl rfl 6 (by decide) (ht _ q545) (fun _ h9 => h9) rfl d_M_part_43 ?_
                  refine lv_iload_n hx hb d_M_part_46 rfl (lv_at hl 4 rfl) ?_
                  refine z_iald hx hb hK (hM.1 6 _ rfl) j9 rfl (by omega) (by decide) d_M_part_47 ?_
                  rw [es8]
                  refine lv_iadd hx hb d_M_part_48 ?_
                  rw [show (((nI (160 * j9)) + (nI (cs v8).length)) : Int32) = nI ((160 * j9) + ((cs v8).length)) from nI_add (160 * j9) ((cs v8).length)]
                  refine lv_istore (lv' := [(6, .int (nI ((160 * j9) + ((cs v8).length)))), (5, .int (nI (160 * j9))), (4, .int (nI (vty v8))), (0, .ref (mm 0)), (1, .int (nI j)), (2, .int (nI j9)), (3, .int 0)]) hx hb d_M_part_49 hl (by decide) rfl (fun ls hl => ?_)
                  refine lv_aload_n hx hb d_M_part_51 rfl (lv_at hl 3 rfl) ?_
                  refine va_get (D := D) (ci := 10) (v := .ref (mm 1)) (C := "ValueTreesModel") (T := T_M) (N := 12) hx hb ht in_M hown hK.1 hM.1 0 rfl rfl 0 (by decide) (ht _ q539) (fun _ h9 => h9) rfl d_M_part_52 ?_
                  refine lv_iload hx hb d_M_part_55 (lv_at hl 2 rfl) ?_
                  refine z_iald hx hb hK (hM.1 1 _ rfl) (vty v8) rfl (by omega) (by decide) d_M_part_57 ?_
                  rw [(hT _ ht8).1]
                  refine lv_tableOut (tgt := 343) hx hb d_M_part_58 (by rw [show ((nI (tW (tb (vty v8)))) : Int32) = 1 from (by rw [hword]; rfl)]; decide) (by decide) ?_
                  refine lv_iconst (v := (-1)) hx hb d_M_part_343 (by decide) ?_
                  refine z_iretQ hx hb hr hlocks d_M_part_344 hS (Nat.le_refl _) (Nat.le_refl _) ?_
                  have eo : o_part RV (nI j9) 0 = none := by unfold o_part; rw [rgs_nI hj9, hV8, ec9]; try rfl
                  rw [eo]
                  exact ⟨rfl, _, _, _, _, _, _, _, _, _, _, _, hM, hO, hT, hR, hWk⟩
                · have hf1 : F (160 * j9 + 1) = 10 := by rw [hfz.2, ht1]; rfl
                  have hlv : (cs v8).length = (cs v8).length := rfl
                  refine lv_aload_n hx hb d_M_part_26 rfl (lv_at hl 0 rfl) ?_
                  refine va_get (D := D) (ci := 10) (v := .ref (mm 4)) (C := "ValueTreesModel") (T := T_M) (N := 12) hx hb ht in_M hown hK.1 hM.1 0 rfl rfl 4 (by decide) (ht _ q543) (fun _ h9 => h9) rfl d_M_part_27 ?_
                  refine lv_iload_n hx hb d_M_part_30 rfl (lv_at hl 2 rfl) ?_
                  refine z_iald hx hb hK (hM.1 4 _ rfl) j9 rfl (by omega) (by decide) d_M_part_31 ?_
                  rw [et8]
                  refine lv_istore (lv' := [(4, .int (nI (vty v8))), (0, .ref (mm 0)), (1, .int (nI j)), (2, .int (nI j9)), (3, .int 0)]) hx hb d_M_part_32 hl (by decide) rfl (fun ls hl => ?_)
                  refine lv_iload_n hx hb d_M_part_34 rfl (lv_at hl 3 rfl) ?_
                  refine z_callR (va_runS (As := [.int (nI j9)]) (rest := []) ⟨hx, hb, hml, hown, hts⟩ (c_M_base l D dT _ (nI j9)) ⟨callB_of 1 hts (gI gd_up gd_c q650) rfl rfl rfl (ht _ q10) (ht _ q648) hd_M_base ⟨Nat.le_of_ble_eq_true rfl, Nat.le_of_ble_eq_true rfl⟩, ht _ q649⟩ (z_preS hK) rfl rfl hl.1 rfl (lv_room (Nat.le_of_ble_eq_true rfl)) d_M_part_35 ⟨Nat.zero_le _, Nat.zero_le _⟩) (fun v34 hv33 => ?_)
                  subst hv33
                  rw [show (160 * nI j9 : Int32) = nI (160 * j9) from pk_mul 160 j9]
                  refine lv_istore (lv' := [(5, .int (nI (160 * j9))), (4, .int (nI (vty v8))), (0, .ref (mm 0)), (1, .int (nI j)), (2, .int (nI j9)), (3, .int 0)]) hx hb d_M_part_38 hl (by decide) rfl (fun ls hl => ?_)
                  refine lv_iload hx hb d_M_part_40 (lv_at hl 0 rfl) ?_
                  refine lv_aload_n hx hb d_M_part_42 rfl (lv_at hl 2 rfl) ?_
                  refine va_get (D := D) (ci := 10) (v := .ref (mm 6)) (C := "ValueTreesModel") (T := T_M) (N := 12) hx hb ht in_M hown hK.1 hM.1 0 rfl rfl 6 (by decide) (ht _ q545) (fun _ h9 => h9) rfl d_M_part_43 ?_
                  refine lv_iload_n hx hb d_M_part_46 rfl (lv_at hl 4 rfl) ?_
                  refine z_iald hx hb hK (hM.1 6 _ rfl) j9 rfl (by omega) (by decide) d_M_part_47 ?_
                  rw [es8]
                  refine lv_iadd hx hb d_M_part_48 ?_
                  rw [show (((nI (160 * j9)) + (nI (cs v8).length)) : Int32) = nI ((160 * j9) + ((cs v8).length)) from nI_add (160 * j9) ((cs v8).length)]
                  refine lv_istore (lv' := [(6, .int (nI ((160 * j9) + ((cs v8).length)))), (5, .int (nI (160 * j9))), (4, .int (nI (vty v8))), (0, .ref (mm 0)), (1, .int (nI j)), (2, .int (nI j9)), (3, .int 0)]) hx hb d_M_part_49 hl (by decide) rfl (fun ls hl => ?_)
                  refine lv_aload_n hx hb d_M_part_51 rfl (lv_at hl 3 rfl) ?_
                  refine va_get (D := D) (ci := 10) (v := .ref (mm 1)) (C := "ValueTreesModel") (T := T_M) (N := 12) hx hb ht in_M hown hK.1 hM.1 0 rfl rfl 0 (by decide) (ht _ q539) (fun _ h9 => h9) rfl d_M_part_52 ?_
                  refine lv_iload hx hb d_M_part_55 (lv_at hl 2 rfl) ?_
                  refine z_iald hx hb hK (hM.1 1 _ rfl) (vty v8) rfl (by omega) (by decide) d_M_part_57 ?_
                  rw [(hT _ ht8).1]
                  refine lv_tableOut (tgt := 343) hx hb d_M_part_58 (by rw [show ((nI (tW (tb (vty v8)))) : Int32) = 1 from (by rw [hword]; rfl)]; decide) (by decide) ?_
                  refine lv_iconst (v := (-1)) hx hb d_M_part_343 (by decide) ?_
                  refine z_iretQ hx hb hr hlocks d_M_part_344 hS (Nat.le_refl _) (Nat.le_refl _) ?_
                  have eo : o_part RV (nI j9) 0 = none := by unfold o_part; rw [rgs_nI hj9, hV8, ec9]; try rfl
                  rw [eo]
                  exact ⟨rfl, _, _, _, _, _, _, _, _, _, _, _, hM, hO, hT, hR, hWk⟩
              · subst hi9
                have ht1 := not_one hO ht8 (by omega)
                have hf1 : F (160 * j9 + 1) = 6 := by rw [hfz.2]; simp [vtag, ht1]
                have hlv : (cs v8).length = (cs v8).length := rfl
                obtain ⟨hLk, hltk, hlpk⟩ := tl_some hO ht8 (by omega)
                have elk : lf (vty v8) = nI (lt_ tb (vty v8)) := by rw [(hT _ ht8).2.1, hLk]; rfl
                refine lv_aload_n hx hb d_M_part_26 rfl (lv_at hl 0 rfl) ?_
                refine va_get (D := D) (ci := 10) (v := .ref (mm 4)) (C := "ValueTreesModel") (T := T_M) (N := 12) hx hb ht in_M hown hK.1 hM.1 0 rfl rfl 4 (by decide) (ht _ q543) (fun _ h9 => h9) rfl d_M_part_27 ?_
                refine lv_iload_n hx hb d_M_part_30 rfl (lv_at hl 2 rfl) ?_
                refine z_iald hx hb hK (hM.1 4 _ rfl) j9 rfl (by omega) (by decide) d_M_part_31 ?_
                rw [et8]
                refine lv_istore (lv' := [(4, .int (nI (vty v8))), (0, .ref (mm 0)), (1, .int (nI j)), (2, .int (nI j9)), (3, .int 0)]) hx hb d_M_part_32 hl (by decide) rfl (fun ls hl => ?_)
                refine lv_iload_n hx hb d_M_part_34 rfl (lv_at hl 3 rfl) ?_
                refine z_callR (va_runS (As := [.int (nI j9)]) (rest := []) ⟨hx, hb, hml, hown, hts⟩ (c_M_base l D dT _ (nI j9)) ⟨callB_of 1 hts (gI gd_up gd_c q650) rfl rfl rfl (ht _ q10) (ht _ q648) hd_M_base ⟨Nat.le_of_ble_eq_true rfl, Nat.le_of_ble_eq_true rfl⟩, ht _ q649⟩ (z_preS hK) rfl rfl hl.1 rfl (lv_room (Nat.le_of_ble_eq_true rfl)) d_M_part_35 ⟨Nat.zero_le _, Nat.zero_le _⟩) (fun v36 hv35 => ?_)
                subst hv35
                rw [show (160 * nI j9 : Int32) = nI (160 * j9) from pk_mul 160 j9]
                refine lv_istore (lv' := [(5, .int (nI (160 * j9))), (4, .int (nI (vty v8))), (0, .ref (mm 0)), (1, .int (nI j)), (2, .int (nI j9)), (3, .int 0)]) hx hb d_M_part_38 hl (by decide) rfl (fun ls hl => ?_)
                refine lv_iload hx hb d_M_part_40 (lv_at hl 0 rfl) ?_
                refine lv_aload_n hx hb d_M_part_42 rfl (lv_at hl 2 rfl) ?_
                refine va_get (D := D) (ci := 10) (v := .ref (mm 6)) (C := "ValueTreesModel") (T := T_M) (N := 12) hx hb ht in_M hown hK.1 hM.1 0 rfl rfl 6 (by decide) (ht _ q545) (fun _ h9 => h9) rfl d_M_part_43 ?_
                refine lv_iload_n hx hb d_M_part_46 rfl (lv_at hl 4 rfl) ?_
                refine z_iald hx hb hK (hM.1 6 _ rfl) j9 rfl (by omega) (by decide) d_M_part_47 ?_
                rw [es8]
                refine lv_iadd hx hb d_M_part_48 ?_
                rw [show (((nI (160 * j9)) + (nI (cs v8).length)) : Int32) = nI ((160 * j9) + ((cs v8).length)) from nI_add (160 * j9) ((cs v8).length)]
                refine lv_istore (lv' := [(6, .int (nI ((160 * j9) + ((cs v8).length)))), (5, .int (nI (160 * j9))), (4, .int (nI (vty v8))), (0, .ref (mm 0)), (1, .int (nI j)), (2, .int (nI j9)), (3, .int 0)]) hx hb d_M_part_49 hl (by decide) rfl (fun ls hl => ?_)
                refine lv_aload_n hx hb d_M_part_51 rfl (lv_at hl 3 rfl) ?_
                refine va_get (D := D) (ci := 10) (v := .ref (mm 1)) (C := "ValueTreesModel") (T := T_M) (N := 12) hx hb ht in_M hown hK.1 hM.1 0 rfl rfl 0 (by decide) (ht _ q539) (fun _ h9 => h9) rfl d_M_part_52 ?_
                refine lv_iload hx hb d_M_part_55 (lv_at hl 2 rfl) ?_
                refine z_iald hx hb hK (hM.1 1 _ rfl) (vty v8) rfl (by omega) (by decide) d_M_part_57 ?_
                rw [(hT _ ht8).1]
                refine lv_tableIn (tgt := 108) hx hb d_M_part_58 (by rw [show ((nI (tW (tb (vty v8)))) : Int32) = 10 from (by rw [hword]; rfl)]; decide) (by rw [show ((nI (tW (tb (vty v8)))) : Int32) = 10 from (by rw [hword]; rfl)]; decide) (by rw [show ((nI (tW (tb (vty v8)))) : Int32) = 10 from (by rw [hword]; rfl)]; rfl) (by decide) ?_
                refine lv_iload_n hx hb d_M_part_108 rfl (lv_at hl 6 rfl) ?_
                refine lv_if_gt (tgt := 125) hx hb d_M_part_109 (by decide) (fun c37 => absurd c37 (by decide)) (fun _ => ?_)
                refine lv_aload_n hx hb d_M_part_112 rfl (lv_at hl 3 rfl) ?_
                refine lv_iload hx hb d_M_part_113 (lv_at hl 1 rfl) ?_
                refine lv_iconst (v := 1) hx hb d_M_part_115 (by decide) ?_
                refine lv_iadd hx hb d_M_part_116 ?_
                rw [show (((nI (160 * j9)) + 1) : Int32) = nI ((160 * j9) + 1) from nI_add (160 * j9) 1]
                refine z_callR (va_runV (C := "ValueTreesModel") (As := [.int (nI ((160 * j9) + 1))]) (rest := []) ⟨hx, hb, hml, hown, hts⟩ (c_M_byteOf l D dT _ mm wd lf rt tc ty F sz Wk wz dg dc sh hM ((160 * j9) + 1) (by omega) (hF _)) ⟨callB_of 1 hts (gI gd_up gd_c q670) rfl rfl rfl (ht _ q10) (ht _ q667) hd_M_byteOf ⟨Nat.le_of_ble_eq_true rfl, Nat.le_of_ble_eq_true rfl⟩, ht _ q669, ht _ qs29⟩ (z_preV hK (va_recv hK.1 hM.1 (ci := 10) (q0 := 0) rfl rfl)) rfl rfl hl.1 rfl (lv_room (Nat.le_of_ble_eq_true rfl)) d_M_part_117 ⟨Nat.zero_le _, Nat.zero_le _⟩) (fun v39 hv38 => ?_)
                subst hv38
                rw [hf1]
                refine lv_bipush (v := 6) hx hb d_M_part_120 (by decide) ?_
                refine lv_icmp_ne (tgt := 129) hx hb d_M_part_122 (by decide) (fun c40 => absurd ((nI_eq (a := 6) (b := 6) (by omega) (by omega)).mpr (by omega)) c40) (fun c40 => ?_)
                refine lv_iconst (v := (-1)) hx hb d_M_part_125 (by decide) ?_
                refine lv_goto (tgt := 147) hx hb d_M_part_126 (by decide) ?_
                refine z_iretQ hx hb hr hlocks d_M_part_147 hS (Nat.le_refl _) (Nat.le_refl _) ?_
                have eo : o_part RV (nI j9) 0 = none := by unfold o_part; rw [rgs_nI hj9, hV8, ec9]; try rfl
                rw [eo]
                exact ⟨rfl, _, _, _, _, _, _, _, _, _, _, _, hM, hO, hT, hR, hWk⟩
            | neg ch =>
              have hwd : tW (tb (vty v8)) = 12 ∨ tW (tb (vty v8)) = 15 ∨ tW (tb (vty v8)) = 16 := by simp only [wty] at hc9; omega
              obtain ⟨ch9, ech9, hch⟩ := tree_of hw8 hwd
              have ech9 := ec9.symm.trans ech9
              cases ech9
              rw [f_neg] at hfz
              rw [l_neg] at hlz
              rcases hwd with hword | hword | hword
              · have hlv : (cs v8).length = (cs v8).length := rfl
                refine lv_aload_n hx hb d_M_part_26 rfl (lv_at hl 0 rfl) ?_
                refine va_get (D := D) (ci := 10) (v := .ref (mm 4)) (C := "ValueTreesModel") (T := T_M) (N := 12) hx hb ht in_M hown hK.1 hM.1 0 rfl rfl 4 (by decide) (ht _ q543) (fun _ h9 => h9) rfl d_M_part_27 ?_
                refine lv_iload_n hx hb d_M_part_30 rfl (lv_at hl 2 rfl) ?_
                refine z_iald hx hb hK (hM.1 4 _ rfl) j9 rfl (by omega) (by decide) d_M_part_31 ?_
                rw [et8]
                refine lv_istore (lv' := [(4, .int (nI (vty v8))), (0, .ref (mm 0)), (1, .int (nI j)), (2, .int (nI j9)), (3, .int 0)]) hx hb d_M_part_32 hl (by decide) rfl (fun ls hl => ?_)
                refine lv_iload_n hx hb d_M_part_34 rfl (lv_at hl 3 rfl) ?_
                refine z_callR (va_runS (As := [.int (nI j9)]) (rest := []) ⟨hx, hb, hml, hown, hts⟩ (c_M_base l D dT _ (nI j9)) ⟨callB_of 1 hts (gI gd_up gd_c q650) rfl rfl rfl (ht _ q10) (ht _ q648) hd_M_base ⟨Nat.le_of_ble_eq_true rfl, Nat.le_of_ble_eq_true rfl⟩, ht _ q649⟩ (z_preS hK) rfl rfl hl.1 rfl (lv_room (Nat.le_of_ble_eq_true rfl)) d_M_part_35 ⟨Nat.zero_le _, Nat.zero_le _⟩) (fun v42 hv41 => ?_)
                subst hv41
                rw [show (160 * nI j9 : Int32) = nI (160 * j9) from pk_mul 160 j9]
                refine lv_istore (lv' := [(5, .int (nI (160 * j9))), (4, .int (nI (vty v8))), (0, .ref (mm 0)), (1, .int (nI j)), (2, .int (nI j9)), (3, .int 0)]) hx hb d_M_part_38 hl (by decide) rfl (fun ls hl => ?_)
                refine lv_iload hx hb d_M_part_40 (lv_at hl 0 rfl) ?_
                refine lv_aload_n hx hb d_M_part_42 rfl (lv_at hl 2 rfl) ?_
                refine va_get (D := D) (ci := 10) (v := .ref (mm 6)) (C := "ValueTreesModel") (T := T_M) (N := 12) hx hb ht in_M hown hK.1 hM.1 0 rfl rfl 6 (by decide) (ht _ q545) (fun _ h9 => h9) rfl d_M_part_43 ?_
                refine lv_iload_n hx hb d_M_part_46 rfl (lv_at hl 4 rfl) ?_
                refine z_iald hx hb hK (hM.1 6 _ rfl) j9 rfl (by omega) (by decide) d_M_part_47 ?_
                rw [es8]
                refine lv_iadd hx hb d_M_part_48 ?_
                rw [show (((nI (160 * j9)) + (nI (cs v8).length)) : Int32) = nI ((160 * j9) + ((cs v8).length)) from nI_add (160 * j9) ((cs v8).length)]
                refine lv_istore (lv' := [(6, .int (nI ((160 * j9) + ((cs v8).length)))), (5, .int (nI (160 * j9))), (4, .int (nI (vty v8))), (0, .ref (mm 0)), (1, .int (nI j)), (2, .int (nI j9)), (3, .int 0)]) hx hb d_M_part_49 hl (by decide) rfl (fun ls hl => ?_)
                refine lv_aload_n hx hb d_M_part_51 rfl (lv_at hl 3 rfl) ?_
                refine va_get (D := D) (ci := 10) (v := .ref (mm 1)) (C := "ValueTreesModel") (T := T_M) (N := 12) hx hb ht in_M hown hK.1 hM.1 0 rfl rfl 0 (by decide) (ht _ q539) (fun _ h9 => h9) rfl d_M_part_52 ?_
                refine lv_iload hx hb d_M_part_55 (lv_at hl 2 rfl) ?_
                refine z_iald hx hb hK (hM.1 1 _ rfl) (vty v8) rfl (by omega) (by decide) d_M_part_57 ?_
                rw [(hT _ ht8).1]
                refine lv_tableIn (tgt := 343) hx hb d_M_part_58 (by rw [show ((nI (tW (tb (vty v8)))) : Int32) = 12 from (by rw [hword]; rfl)]; decide) (by rw [show ((nI (tW (tb (vty v8)))) : Int32) = 12 from (by rw [hword]; rfl)]; decide) (by rw [show ((nI (tW (tb (vty v8)))) : Int32) = 12 from (by rw [hword]; rfl)]; rfl) (by decide) ?_
                refine lv_iconst (v := (-1)) hx hb d_M_part_343 (by decide) ?_
                refine z_iretQ hx hb hr hlocks d_M_part_344 hS (Nat.le_refl _) (Nat.le_refl _) ?_
                have eo : o_part RV (nI j9) 0 = none := by unfold o_part; rw [rgs_nI hj9, hV8, ec9]; try rfl
                rw [eo]
                exact ⟨rfl, _, _, _, _, _, _, _, _, _, _, _, hM, hO, hT, hR, hWk⟩
              · have hlv : (cs v8).length = (cs v8).length := rfl
                refine lv_aload_n hx hb d_M_part_26 rfl (lv_at hl 0 rfl) ?_
                refine va_get (D := D) (ci := 10) (v := .ref (mm 4)) (C := "ValueTreesModel") (T := T_M) (N := 12) hx hb ht in_M hown hK.1 hM.1 0 rfl rfl 4 (by decide) (ht _ q543) (fun _ h9 => h9) rfl d_M_part_27 ?_
                refine lv_iload_n hx hb d_M_part_30 rfl (lv_at hl 2 rfl) ?_
                refine z_iald hx hb hK (hM.1 4 _ rfl) j9 rfl (by omega) (by decide) d_M_part_31 ?_
                rw [et8]
                refine lv_istore (lv' := [(4, .int (nI (vty v8))), (0, .ref (mm 0)), (1, .int (nI j)), (2, .int (nI j9)), (3, .int 0)]) hx hb d_M_part_32 hl (by decide) rfl (fun ls hl => ?_)
                refine lv_iload_n hx hb d_M_part_34 rfl (lv_at hl 3 rfl) ?_
                refine z_callR (va_runS (As := [.int (nI j9)]) (rest := []) ⟨hx, hb, hml, hown, hts⟩ (c_M_base l D dT _ (nI j9)) ⟨callB_of 1 hts (gI gd_up gd_c q650) rfl rfl rfl (ht _ q10) (ht _ q648) hd_M_base ⟨Nat.le_of_ble_eq_true rfl, Nat.le_of_ble_eq_true rfl⟩, ht _ q649⟩ (z_preS hK) rfl rfl hl.1 rfl (lv_room (Nat.le_of_ble_eq_true rfl)) d_M_part_35 ⟨Nat.zero_le _, Nat.zero_le _⟩) (fun v44 hv43 => ?_)
                subst hv43
                rw [show (160 * nI j9 : Int32) = nI (160 * j9) from pk_mul 160 j9]
                refine lv_istore (lv' := [(5, .int (nI (160 * j9))), (4, .int (nI (vty v8))), (0, .ref (mm 0)), (1, .int (nI j)), (2, .int (nI j9)), (3, .int 0)]) hx hb d_M_part_38 hl (by decide) rfl (fun ls hl => ?_)
                refine lv_iload hx hb d_M_part_40 (lv_at hl 0 rfl) ?_
                refine lv_aload_n hx hb d_M_part_42 rfl (lv_at hl 2 rfl) ?_
                refine va_get (D := D) (ci := 10) (v := .ref (mm 6)) (C := "ValueTreesModel") (T := T_M) (N := 12) hx hb ht in_M hown hK.1 hM.1 0 rfl rfl 6 (by decide) (ht _ q545) (fun _ h9 => h9) rfl d_M_part_43 ?_
                refine lv_iload_n hx hb d_M_part_46 rfl (lv_at hl 4 rfl) ?_
                refine z_iald hx hb hK (hM.1 6 _ rfl) j9 rfl (by omega) (by decide) d_M_part_47 ?_
                rw [es8]
                refine lv_iadd hx hb d_M_part_48 ?_
                rw [show (((nI (160 * j9)) + (nI (cs v8).length)) : Int32) = nI ((160 * j9) + ((cs v8).length)) from nI_add (160 * j9) ((cs v8).length)]
                refine lv_istore (lv' := [(6, .int (nI ((160 * j9) + ((cs v8).length)))), (5, .int (nI (160 * j9))), (4, .int (nI (vty v8))), (0, .ref (mm 0)), (1, .int (nI j)), (2, .int (nI j9)), (3, .int 0)]) hx hb d_M_part_49 hl (by decide) rfl (fun ls hl => ?_)
                refine lv_aload_n hx hb d_M_part_51 rfl (lv_at hl 3 rfl) ?_
                refine va_get (D := D) (ci := 10) (v := .ref (mm 1)) (C := "ValueTreesModel") (T := T_M) (N := 12) hx hb ht in_M hown hK.1 hM.1 0 rfl rfl 0 (by decide) (ht _ q539) (fun _ h9 => h9) rfl d_M_part_52 ?_
                refine lv_iload hx hb d_M_part_55 (lv_at hl 2 rfl) ?_
                refine z_iald hx hb hK (hM.1 1 _ rfl) (vty v8) rfl (by omega) (by decide) d_M_part_57 ?_
                rw [(hT _ ht8).1]
                refine lv_tableIn (tgt := 343) hx hb d_M_part_58 (by rw [show ((nI (tW (tb (vty v8)))) : Int32) = 15 from (by rw [hword]; rfl)]; decide) (by rw [show ((nI (tW (tb (vty v8)))) : Int32) = 15 from (by rw [hword]; rfl)]; decide) (by rw [show ((nI (tW (tb (vty v8)))) : Int32) = 15 from (by rw [hword]; rfl)]; rfl) (by decide) ?_
                refine lv_iconst (v := (-1)) hx hb d_M_part_343 (by decide) ?_
                refine z_iretQ hx hb hr hlocks d_M_part_344 hS (Nat.le_refl _) (Nat.le_refl _) ?_
                have eo : o_part RV (nI j9) 0 = none := by unfold o_part; rw [rgs_nI hj9, hV8, ec9]; try rfl
                rw [eo]
                exact ⟨rfl, _, _, _, _, _, _, _, _, _, _, _, hM, hO, hT, hR, hWk⟩
              · have hlv : (cs v8).length = (cs v8).length := rfl
                refine lv_aload_n hx hb d_M_part_26 rfl (lv_at hl 0 rfl) ?_
                refine va_get (D := D) (ci := 10) (v := .ref (mm 4)) (C := "ValueTreesModel") (T := T_M) (N := 12) hx hb ht in_M hown hK.1 hM.1 0 rfl rfl 4 (by decide) (ht _ q543) (fun _ h9 => h9) rfl d_M_part_27 ?_
                refine lv_iload_n hx hb d_M_part_30 rfl (lv_at hl 2 rfl) ?_
                refine z_iald hx hb hK (hM.1 4 _ rfl) j9 rfl (by omega) (by decide) d_M_part_31 ?_
                rw [et8]
                refine lv_istore (lv' := [(4, .int (nI (vty v8))), (0, .ref (mm 0)), (1, .int (nI j)), (2, .int (nI j9)), (3, .int 0)]) hx hb d_M_part_32 hl (by decide) rfl (fun ls hl => ?_)
                refine lv_iload_n hx hb d_M_part_34 rfl (lv_at hl 3 rfl) ?_
                refine z_callR (va_runS (As := [.int (nI j9)]) (rest := []) ⟨hx, hb, hml, hown, hts⟩ (c_M_base l D dT _ (nI j9)) ⟨callB_of 1 hts (gI gd_up gd_c q650) rfl rfl rfl (ht _ q10) (ht _ q648) hd_M_base ⟨Nat.le_of_ble_eq_true rfl, Nat.le_of_ble_eq_true rfl⟩, ht _ q649⟩ (z_preS hK) rfl rfl hl.1 rfl (lv_room (Nat.le_of_ble_eq_true rfl)) d_M_part_35 ⟨Nat.zero_le _, Nat.zero_le _⟩) (fun v46 hv45 => ?_)
                subst hv45
                rw [show (160 * nI j9 : Int32) = nI (160 * j9) from pk_mul 160 j9]
                refine lv_istore (lv' := [(5, .int (nI (160 * j9))), (4, .int (nI (vty v8))), (0, .ref (mm 0)), (1, .int (nI j)), (2, .int (nI j9)), (3, .int 0)]) hx hb d_M_part_38 hl (by decide) rfl (fun ls hl => ?_)
                refine lv_iload hx hb d_M_part_40 (lv_at hl 0 rfl) ?_
                refine lv_aload_n hx hb d_M_part_42 rfl (lv_at hl 2 rfl) ?_
                refine va_get (D := D) (ci := 10) (v := .ref (mm 6)) (C := "ValueTreesModel") (T := T_M) (N := 12) hx hb ht in_M hown hK.1 hM.1 0 rfl rfl 6 (by decide) (ht _ q545) (fun _ h9 => h9) rfl d_M_part_43 ?_
                refine lv_iload_n hx hb d_M_part_46 rfl (lv_at hl 4 rfl) ?_
                refine z_iald hx hb hK (hM.1 6 _ rfl) j9 rfl (by omega) (by decide) d_M_part_47 ?_
                rw [es8]
                refine lv_iadd hx hb d_M_part_48 ?_
                rw [show (((nI (160 * j9)) + (nI (cs v8).length)) : Int32) = nI ((160 * j9) + ((cs v8).length)) from nI_add (160 * j9) ((cs v8).length)]
                refine lv_istore (lv' := [(6, .int (nI ((160 * j9) + ((cs v8).length)))), (5, .int (nI (160 * j9))), (4, .int (nI (vty v8))), (0, .ref (mm 0)), (1, .int (nI j)), (2, .int (nI j9)), (3, .int 0)]) hx hb d_M_part_49 hl (by decide) rfl (fun ls hl => ?_)
                refine lv_aload_n hx hb d_M_part_51 rfl (lv_at hl 3 rfl) ?_
                refine va_get (D := D) (ci := 10) (v := .ref (mm 1)) (C := "ValueTreesModel") (T := T_M) (N := 12) hx hb ht in_M hown hK.1 hM.1 0 rfl rfl 0 (by decide) (ht _ q539) (fun _ h9 => h9) rfl d_M_part_52 ?_
                refine lv_iload hx hb d_M_part_55 (lv_at hl 2 rfl) ?_
                refine z_iald hx hb hK (hM.1 1 _ rfl) (vty v8) rfl (by omega) (by decide) d_M_part_57 ?_
                rw [(hT _ ht8).1]
                refine lv_tableIn (tgt := 343) hx hb d_M_part_58 (by rw [show ((nI (tW (tb (vty v8)))) : Int32) = 16 from (by rw [hword]; rfl)]; decide) (by rw [show ((nI (tW (tb (vty v8)))) : Int32) = 16 from (by rw [hword]; rfl)]; decide) (by rw [show ((nI (tW (tb (vty v8)))) : Int32) = 16 from (by rw [hword]; rfl)]; rfl) (by decide) ?_
                refine lv_iconst (v := (-1)) hx hb d_M_part_343 (by decide) ?_
                refine z_iretQ hx hb hr hlocks d_M_part_344 hS (Nat.le_refl _) (Nat.le_refl _) ?_
                have eo : o_part RV (nI j9) 0 = none := by unfold o_part; rw [rgs_nI hj9, hV8, ec9]; try rfl
                rw [eo]
                exact ⟨rfl, _, _, _, _, _, _, _, _, _, _, _, hM, hO, hT, hR, hWk⟩
            | add x y =>
              obtain ⟨hm9, hx9, hy9⟩ := hc9
              have hword : tW (tb (vty v8)) = 18 := by omega
              rw [f_add] at hfz
              rw [l_add] at hlz
              have hlv : (cs v8).length = (cs v8).length := rfl
              obtain ⟨hLk, hltk, hlpk⟩ := tl_some hO ht8 (by omega)
              have elk : lf (vty v8) = nI (lt_ tb (vty v8)) := by rw [(hT _ ht8).2.1, hLk]; rfl
              obtain ⟨hRk, hrtk, hrpk⟩ := tr_some hO ht8 (by omega)
              have erk : rt (vty v8) = nI (rt_ tb (vty v8)) := by rw [(hT _ ht8).2.2, hRk]; rfl
              have hlx : (cs v8).length = 2 + (cs x).length + (cs y).length := by rw [ec9, l_add]
              have hpk := (hO.2.2 _ (show lt_ tb (vty v8) < tc by omega)).2.2.2.2.2.2.2.2.1
              refine lv_aload_n hx hb d_M_part_26 rfl (lv_at hl 0 rfl) ?_
              refine va_get (D := D) (ci := 10) (v := .ref (mm 4)) (C := "ValueTreesModel") (T := T_M) (N := 12) hx hb ht in_M hown hK.1 hM.1 0 rfl rfl 4 (by decide) (ht _ q543) (fun _ h9 => h9) rfl d_M_part_27 ?_
              refine lv_iload_n hx hb d_M_part_30 rfl (lv_at hl 2 rfl) ?_
              refine z_iald hx hb hK (hM.1 4 _ rfl) j9 rfl (by omega) (by decide) d_M_part_31 ?_
              rw [et8]
              refine lv_istore (lv' := [(4, .int (nI (vty v8))), (0, .ref (mm 0)), (1, .int (nI j)), (2, .int (nI j9)), (3, .int 0)]) hx hb d_M_part_32 hl (by decide) rfl (fun ls hl => ?_)
              refine lv_iload_n hx hb d_M_part_34 rfl (lv_at hl 3 rfl) ?_
              refine z_callR (va_runS (As := [.int (nI j9)]) (rest := []) ⟨hx, hb, hml, hown, hts⟩ (c_M_base l D dT _ (nI j9)) ⟨callB_of 1 hts (gI gd_up gd_c q650) rfl rfl rfl (ht _ q10) (ht _ q648) hd_M_base ⟨Nat.le_of_ble_eq_true rfl, Nat.le_of_ble_eq_true rfl⟩, ht _ q649⟩ (z_preS hK) rfl rfl hl.1 rfl (lv_room (Nat.le_of_ble_eq_true rfl)) d_M_part_35 ⟨Nat.zero_le _, Nat.zero_le _⟩) (fun v48 hv47 => ?_)
              subst hv47
              rw [show (160 * nI j9 : Int32) = nI (160 * j9) from pk_mul 160 j9]
              refine lv_istore (lv' := [(5, .int (nI (160 * j9))), (4, .int (nI (vty v8))), (0, .ref (mm 0)), (1, .int (nI j)), (2, .int (nI j9)), (3, .int 0)]) hx hb d_M_part_38 hl (by decide) rfl (fun ls hl => ?_)
              refine lv_iload hx hb d_M_part_40 (lv_at hl 0 rfl) ?_
              refine lv_aload_n hx hb d_M_part_42 rfl (lv_at hl 2 rfl) ?_
              refine va_get (D := D) (ci := 10) (v := .ref (mm 6)) (C := "ValueTreesModel") (T := T_M) (N := 12) hx hb ht in_M hown hK.1 hM.1 0 rfl rfl 6 (by decide) (ht _ q545) (fun _ h9 => h9) rfl d_M_part_43 ?_
              refine lv_iload_n hx hb d_M_part_46 rfl (lv_at hl 4 rfl) ?_
              refine z_iald hx hb hK (hM.1 6 _ rfl) j9 rfl (by omega) (by decide) d_M_part_47 ?_
              rw [es8]
              refine lv_iadd hx hb d_M_part_48 ?_
              rw [show (((nI (160 * j9)) + (nI (cs v8).length)) : Int32) = nI ((160 * j9) + ((cs v8).length)) from nI_add (160 * j9) ((cs v8).length)]
              refine lv_istore (lv' := [(6, .int (nI ((160 * j9) + ((cs v8).length)))), (5, .int (nI (160 * j9))), (4, .int (nI (vty v8))), (0, .ref (mm 0)), (1, .int (nI j)), (2, .int (nI j9)), (3, .int 0)]) hx hb d_M_part_49 hl (by decide) rfl (fun ls hl => ?_)
              refine lv_aload_n hx hb d_M_part_51 rfl (lv_at hl 3 rfl) ?_
              refine va_get (D := D) (ci := 10) (v := .ref (mm 1)) (C := "ValueTreesModel") (T := T_M) (N := 12) hx hb ht in_M hown hK.1 hM.1 0 rfl rfl 0 (by decide) (ht _ q539) (fun _ h9 => h9) rfl d_M_part_52 ?_
              refine lv_iload hx hb d_M_part_55 (lv_at hl 2 rfl) ?_
              refine z_iald hx hb hK (hM.1 1 _ rfl) (vty v8) rfl (by omega) (by decide) d_M_part_57 ?_
              rw [(hT _ ht8).1]
              refine lv_tableIn (tgt := 197) hx hb d_M_part_58 (by rw [show ((nI (tW (tb (vty v8)))) : Int32) = 18 from (by rw [hword]; rfl)]; decide) (by rw [show ((nI (tW (tb (vty v8)))) : Int32) = 18 from (by rw [hword]; rfl)]; decide) (by rw [show ((nI (tW (tb (vty v8)))) : Int32) = 18 from (by rw [hword]; rfl)]; rfl) (by decide) ?_
              refine lv_aload_n hx hb d_M_part_197 rfl (lv_at hl 3 rfl) ?_
              refine lv_aload_n hx hb d_M_part_198 rfl (lv_at hl 3 rfl) ?_
              refine va_get (D := D) (ci := 10) (v := .ref (mm 2)) (C := "ValueTreesModel") (T := T_M) (N := 12) hx hb ht in_M hown hK.1 hM.1 0 rfl rfl 1 (by decide) (ht _ q540) (fun _ h9 => h9) rfl d_M_part_199 ?_
              refine lv_iload hx hb d_M_part_202 (lv_at hl 2 rfl) ?_
              refine z_iald hx hb hK (hM.1 2 _ rfl) (vty v8) rfl (by omega) (by decide) d_M_part_204 ?_
              rw [elk]
              refine lv_iload hx hb d_M_part_205 (lv_at hl 1 rfl) ?_
              refine lv_iconst (v := 2) hx hb d_M_part_207 (by decide) ?_
              refine lv_iadd hx hb d_M_part_208 ?_
              rw [show (((nI (160 * j9)) + 2) : Int32) = nI ((160 * j9) + 2) from nI_add (160 * j9) 2]
              refine z_callR (va_runV (C := "ValueTreesModel") (As := [.int (nI (lt_ tb (vty v8))), .int (nI ((160 * j9) + 2))]) (rest := []) ⟨hx, hb, hml, hown, hts⟩ (c_M_end l D dT _ mm wd lf rt tc ty F sz Wk wz dg dc sh hM hF tb hO hT 200 (lt_ tb (vty v8)) x ((160 * j9) + 2) (by omega) (by omega) hx9 hfz.2.2.1 (by omega)) ⟨callB_of 2 hts (gI gd_up gd_c q762) rfl rfl rfl (ht _ q10) (ht _ q759) hd_M_end ⟨Nat.le_of_ble_eq_true rfl, Nat.le_of_ble_eq_true rfl⟩, ht _ q761, ht _ qs43⟩ (z_preV hK (va_recv hK.1 hM.1 (ci := 10) (q0 := 0) rfl rfl)) rfl rfl hl.1 rfl (lv_room (Nat.le_of_ble_eq_true rfl)) d_M_part_209 ⟨Nat.zero_le _, Nat.zero_le _⟩) (fun v50 hv49 => ?_)
              subst hv49
              refine lv_istore (lv' := [(7, .int (nI ((160 * j9) + 2 + (cs x).length))), (6, .int (nI ((160 * j9) + ((cs v8).length)))), (5, .int (nI (160 * j9))), (4, .int (nI (vty v8))), (0, .ref (mm 0)), (1, .int (nI j)), (2, .int (nI j9)), (3, .int 0)]) hx hb d_M_part_212 hl (by decide) rfl (fun ls hl => ?_)
              refine lv_iload_n hx hb d_M_part_214 rfl (lv_at hl 7 rfl) ?_
              refine lv_if_ne (tgt := 239) hx hb d_M_part_215 (by decide) (fun c51 => absurd c51 (by decide)) (fun _ => ?_)
              refine lv_aload_n hx hb d_M_part_218 rfl (lv_at hl 4 rfl) ?_
              refine lv_iload_n hx hb d_M_part_219 rfl (lv_at hl 5 rfl) ?_
              refine lv_aload_n hx hb d_M_part_220 rfl (lv_at hl 4 rfl) ?_
              refine va_get (D := D) (ci := 10) (v := .ref (mm 2)) (C := "ValueTreesModel") (T := T_M) (N := 12) hx hb ht in_M hown hK.1 hM.1 0 rfl rfl 1 (by decide) (ht _ q540) (fun _ h9 => h9) rfl d_M_part_221 ?_
              refine lv_iload hx hb d_M_part_224 (lv_at hl 3 rfl) ?_
              refine z_iald hx hb hK (hM.1 2 _ rfl) (vty v8) rfl (by omega) (by decide) d_M_part_226 ?_
              rw [elk]
              refine lv_iload hx hb d_M_part_227 (lv_at hl 2 rfl) ?_
              refine lv_iconst (v := 2) hx hb d_M_part_229 (by decide) ?_
              refine lv_iadd hx hb d_M_part_230 ?_
              rw [show (((nI (160 * j9)) + 2) : Int32) = nI ((160 * j9) + 2) from nI_add (160 * j9) 2]
              refine lv_iload hx hb d_M_part_231 (lv_at hl 0 rfl) ?_
              rw [show (160 * j9) + 2 + (cs x).length = (160 * j9) + 2 + (cs x).length from (by omega)]
              refine z_callQ (va_runV (C := "ValueTreesModel") (As := [.int (nI j), .int (nI (lt_ tb (vty v8))), .int (nI ((160 * j9) + 2)), .int (nI ((160 * j9) + 2 + (cs x).length))]) (rest := []) ⟨hx, hb, hml, hown, hts⟩ (c_M_take l D dT _ mm wd lf rt tc ty F sz Wk wz dg dc sh hM hF hWk j (lt_ tb (vty v8)) ((160 * j9) + 2) (cs x) hj hfz.2.2.1 (by omega) (by omega)) ⟨callB_of 4 hts (gI gd_up gd_c q790) rfl rfl rfl (ht _ q10) (ht _ q787) hd_M_take ⟨Nat.le_of_ble_eq_true rfl, Nat.le_of_ble_eq_true rfl⟩, ht _ q789, ht _ qs48⟩ (z_preV hK (va_recv hK.1 hM.1 (ci := 10) (q0 := 0) rfl rfl)) rfl rfl hl.1 rfl (lv_room (Nat.le_of_ble_eq_true rfl)) d_M_part_233 ⟨Nat.le_refl _, Nat.le_refl _⟩) hS (fun _ h9 => h9) (fun v53 H locs hv52 hz54 hf55 hS => ?_)
              obtain ⟨r9v, er9⟩ : ∃ r9 : Int32, v53 = some (.int r9) := by obtain ⟨_, _, _, _, _, -, ⟨-, e8, -⟩ | ⟨-, e8, -⟩⟩ := hv52 <;> exact ⟨_, e8⟩
              subst er9
              refine W.eq (g2 := F0 m 236 ls [.int r9v]) rfl ?_
              refine lv_goto (tgt := 255) hx hb d_M_part_236 (by decide) ?_
              refine z_iretQ hx hb hr hlocks d_M_part_255 hS (Nat.le_refl _) (Nat.le_refl _) ?_
              have eo : o_part RV (nI j9) 0 = some x := by unfold o_part; rw [rgs_nI hj9, hV8, ec9]; try rfl
              rw [eo]
              exact kO_done (x := x) hv52 hO hT hR hj (by omega) hx9
            | sub a9 x =>
              rw [f_sub] at hfz
              rw [l_sub] at hlz
              rcases hc9.2 with ⟨hword, rfl, hsub⟩ | ⟨hword, rfl, hsub⟩ | ⟨hword, rfl, hsub⟩
              · have hf1 : F (160 * j9 + 1) = 9 := hfz.2.1
                have hlv : (cs v8).length = (cs v8).length := rfl
                obtain ⟨hLk, hltk, hlpk⟩ := tl_some hO ht8 (by omega)
                have elk : lf (vty v8) = nI (lt_ tb (vty v8)) := by rw [(hT _ ht8).2.1, hLk]; rfl
                have hlx : (cs v8).length = 2 + (cs x).length := by rw [ec9, l_sub]
                refine lv_aload_n hx hb d_M_part_26 rfl (lv_at hl 0 rfl) ?_
                refine va_get (D := D) (ci := 10) (v := .ref (mm 4)) (C := "ValueTreesModel") (T := T_M) (N := 12) hx hb ht in_M hown hK.1 hM.1 0 rfl rfl 4 (by decide) (ht _ q543) (fun _ h9 => h9) rfl d_M_part_27 ?_
                refine lv_iload_n hx hb d_M_part_30 rfl (lv_at hl 2 rfl) ?_
                refine z_iald hx hb hK (hM.1 4 _ rfl) j9 rfl (by omega) (by decide) d_M_part_31 ?_
                rw [et8]
                refine lv_istore (lv' := [(4, .int (nI (vty v8))), (0, .ref (mm 0)), (1, .int (nI j)), (2, .int (nI j9)), (3, .int 0)]) hx hb d_M_part_32 hl (by decide) rfl (fun ls hl => ?_)
                refine lv_iload_n hx hb d_M_part_34 rfl (lv_at hl 3 rfl) ?_
                refine z_callR (va_runS (As := [.int (nI j9)]) (rest := []) ⟨hx, hb, hml, hown, hts⟩ (c_M_base l D dT _ (nI j9)) ⟨callB_of 1 hts (gI gd_up gd_c q650) rfl rfl rfl (ht _ q10) (ht _ q648) hd_M_base ⟨Nat.le_of_ble_eq_true rfl, Nat.le_of_ble_eq_true rfl⟩, ht _ q649⟩ (z_preS hK) rfl rfl hl.1 rfl (lv_room (Nat.le_of_ble_eq_true rfl)) d_M_part_35 ⟨Nat.zero_le _, Nat.zero_le _⟩) (fun v57 hv56 => ?_)
                subst hv56
                rw [show (160 * nI j9 : Int32) = nI (160 * j9) from pk_mul 160 j9]
                refine lv_istore (lv' := [(5, .int (nI (160 * j9))), (4, .int (nI (vty v8))), (0, .ref (mm 0)), (1, .int (nI j)), (2, .int (nI j9)), (3, .int 0)]) hx hb d_M_part_38 hl (by decide) rfl (fun ls hl => ?_)
                refine lv_iload hx hb d_M_part_40 (lv_at hl 0 rfl) ?_
                refine lv_aload_n hx hb d_M_part_42 rfl (lv_at hl 2 rfl) ?_
                refine va_get (D := D) (ci := 10) (v := .ref (mm 6)) (C := "ValueTreesModel") (T := T_M) (N := 12) hx hb ht in_M hown hK.1 hM.1 0 rfl rfl 6 (by decide) (ht _ q545) (fun _ h9 => h9) rfl d_M_part_43 ?_
                refine lv_iload_n hx hb d_M_part_46 rfl (lv_at hl 4 rfl) ?_
                refine z_iald hx hb hK (hM.1 6 _ rfl) j9 rfl (by omega) (by decide) d_M_part_47 ?_
                rw [es8]
                refine lv_iadd hx hb d_M_part_48 ?_
                rw [show (((nI (160 * j9)) + (nI (cs v8).length)) : Int32) = nI ((160 * j9) + ((cs v8).length)) from nI_add (160 * j9) ((cs v8).length)]
                refine lv_istore (lv' := [(6, .int (nI ((160 * j9) + ((cs v8).length)))), (5, .int (nI (160 * j9))), (4, .int (nI (vty v8))), (0, .ref (mm 0)), (1, .int (nI j)), (2, .int (nI j9)), (3, .int 0)]) hx hb d_M_part_49 hl (by decide) rfl (fun ls hl => ?_)
                refine lv_aload_n hx hb d_M_part_51 rfl (lv_at hl 3 rfl) ?_
                refine va_get (D := D) (ci := 10) (v := .ref (mm 1)) (C := "ValueTreesModel") (T := T_M) (N := 12) hx hb ht in_M hown hK.1 hM.1 0 rfl rfl 0 (by decide) (ht _ q539) (fun _ h9 => h9) rfl d_M_part_52 ?_
                refine lv_iload hx hb d_M_part_55 (lv_at hl 2 rfl) ?_
                refine z_iald hx hb hK (hM.1 1 _ rfl) (vty v8) rfl (by omega) (by decide) d_M_part_57 ?_
                rw [(hT _ ht8).1]
                refine lv_tableIn (tgt := 108) hx hb d_M_part_58 (by rw [show ((nI (tW (tb (vty v8)))) : Int32) = 10 from (by rw [hword]; rfl)]; decide) (by rw [show ((nI (tW (tb (vty v8)))) : Int32) = 10 from (by rw [hword]; rfl)]; decide) (by rw [show ((nI (tW (tb (vty v8)))) : Int32) = 10 from (by rw [hword]; rfl)]; rfl) (by decide) ?_
                refine lv_iload_n hx hb d_M_part_108 rfl (lv_at hl 6 rfl) ?_
                refine lv_if_gt (tgt := 125) hx hb d_M_part_109 (by decide) (fun c58 => absurd c58 (by decide)) (fun _ => ?_)
                refine lv_aload_n hx hb d_M_part_112 rfl (lv_at hl 3 rfl) ?_
                refine lv_iload hx hb d_M_part_113 (lv_at hl 1 rfl) ?_
                refine lv_iconst (v := 1) hx hb d_M_part_115 (by decide) ?_
                refine lv_iadd hx hb d_M_part_116 ?_
                rw [show (((nI (160 * j9)) + 1) : Int32) = nI ((160 * j9) + 1) from nI_add (160 * j9) 1]
                refine z_callR (va_runV (C := "ValueTreesModel") (As := [.int (nI ((160 * j9) + 1))]) (rest := []) ⟨hx, hb, hml, hown, hts⟩ (c_M_byteOf l D dT _ mm wd lf rt tc ty F sz Wk wz dg dc sh hM ((160 * j9) + 1) (by omega) (hF _)) ⟨callB_of 1 hts (gI gd_up gd_c q670) rfl rfl rfl (ht _ q10) (ht _ q667) hd_M_byteOf ⟨Nat.le_of_ble_eq_true rfl, Nat.le_of_ble_eq_true rfl⟩, ht _ q669, ht _ qs29⟩ (z_preV hK (va_recv hK.1 hM.1 (ci := 10) (q0 := 0) rfl rfl)) rfl rfl hl.1 rfl (lv_room (Nat.le_of_ble_eq_true rfl)) d_M_part_117 ⟨Nat.zero_le _, Nat.zero_le _⟩) (fun v60 hv59 => ?_)
                subst hv59
                rw [hf1]
                refine lv_bipush (v := 6) hx hb d_M_part_120 (by decide) ?_
                refine lv_icmp_ne (tgt := 129) hx hb d_M_part_122 (by decide) (fun c61 => ?_) (fun c61 => absurd ((nI_eq (a := 9) (b := 6) (by omega) (by omega)).mp c61) (by omega))
                refine lv_aload_n hx hb d_M_part_129 rfl (lv_at hl 3 rfl) ?_
                refine lv_iload_n hx hb d_M_part_130 rfl (lv_at hl 4 rfl) ?_
                refine lv_aload_n hx hb d_M_part_131 rfl (lv_at hl 3 rfl) ?_
                refine va_get (D := D) (ci := 10) (v := .ref (mm 2)) (C := "ValueTreesModel") (T := T_M) (N := 12) hx hb ht in_M hown hK.1 hM.1 0 rfl rfl 1 (by decide) (ht _ q540) (fun _ h9 => h9) rfl d_M_part_132 ?_
                refine lv_iload hx hb d_M_part_135 (lv_at hl 2 rfl) ?_
                refine z_iald hx hb hK (hM.1 2 _ rfl) (vty v8) rfl (by omega) (by decide) d_M_part_137 ?_
                rw [elk]
                refine lv_iload hx hb d_M_part_138 (lv_at hl 1 rfl) ?_
                refine lv_iconst (v := 2) hx hb d_M_part_140 (by decide) ?_
                refine lv_iadd hx hb d_M_part_141 ?_
                rw [show (((nI (160 * j9)) + 2) : Int32) = nI ((160 * j9) + 2) from nI_add (160 * j9) 2]
                refine lv_iload hx hb d_M_part_142 (lv_at hl 0 rfl) ?_
                rw [show (160 * j9) + ((cs v8).length) = (160 * j9) + 2 + (cs x).length from (by omega)]
                refine z_callQ (va_runV (C := "ValueTreesModel") (As := [.int (nI j), .int (nI (lt_ tb (vty v8))), .int (nI ((160 * j9) + 2)), .int (nI ((160 * j9) + 2 + (cs x).length))]) (rest := []) ⟨hx, hb, hml, hown, hts⟩ (c_M_take l D dT _ mm wd lf rt tc ty F sz Wk wz dg dc sh hM hF hWk j (lt_ tb (vty v8)) ((160 * j9) + 2) (cs x) hj hfz.2.2 (by omega) (by omega)) ⟨callB_of 4 hts (gI gd_up gd_c q790) rfl rfl rfl (ht _ q10) (ht _ q787) hd_M_take ⟨Nat.le_of_ble_eq_true rfl, Nat.le_of_ble_eq_true rfl⟩, ht _ q789, ht _ qs48⟩ (z_preV hK (va_recv hK.1 hM.1 (ci := 10) (q0 := 0) rfl rfl)) rfl rfl hl.1 rfl (lv_room (Nat.le_of_ble_eq_true rfl)) d_M_part_144 ⟨Nat.le_refl _, Nat.le_refl _⟩) hS (fun _ h9 => h9) (fun v63 H locs hv62 hz64 hf65 hS => ?_)
                obtain ⟨r9v, er9⟩ : ∃ r9 : Int32, v63 = some (.int r9) := by obtain ⟨_, _, _, _, _, -, ⟨-, e8, -⟩ | ⟨-, e8, -⟩⟩ := hv62 <;> exact ⟨_, e8⟩
                subst er9
                refine W.eq (g2 := F0 m 147 ls [.int r9v]) rfl ?_
                refine z_iretQ hx hb hr hlocks d_M_part_147 hS (Nat.le_refl _) (Nat.le_refl _) ?_
                have eo : o_part RV (nI j9) 0 = some x := by unfold o_part; rw [rgs_nI hj9, hV8, ec9]; try rfl
                rw [eo]
                exact kO_done (x := x) hv62 hO hT hR hj (by omega) hsub
              · have hf1 : F (160 * j9 + 1) = 5 := hfz.2.1
                have hlv : (cs v8).length = (cs v8).length := rfl
                obtain ⟨hLk, hltk, hlpk⟩ := tl_some hO ht8 (by omega)
                have elk : lf (vty v8) = nI (lt_ tb (vty v8)) := by rw [(hT _ ht8).2.1, hLk]; rfl
                obtain ⟨hRk, hrtk, hrpk⟩ := tr_some hO ht8 (by omega)
                have erk : rt (vty v8) = nI (rt_ tb (vty v8)) := by rw [(hT _ ht8).2.2, hRk]; rfl
                have hlx : (cs v8).length = 2 + (cs x).length := by rw [ec9, l_sub]
                refine lv_aload_n hx hb d_M_part_26 rfl (lv_at hl 0 rfl) ?_
                refine va_get (D := D) (ci := 10) (v := .ref (mm 4)) (C := "ValueTreesModel") (T := T_M) (N := 12) hx hb ht in_M hown hK.1 hM.1 0 rfl rfl 4 (by decide) (ht _ q543) (fun _ h9 => h9) rfl d_M_part_27 ?_
                refine lv_iload_n hx hb d_M_part_30 rfl (lv_at hl 2 rfl) ?_
                refine z_iald hx hb hK (hM.1 4 _ rfl) j9 rfl (by omega) (by decide) d_M_part_31 ?_
                rw [et8]
                refine lv_istore (lv' := [(4, .int (nI (vty v8))), (0, .ref (mm 0)), (1, .int (nI j)), (2, .int (nI j9)), (3, .int 0)]) hx hb d_M_part_32 hl (by decide) rfl (fun ls hl => ?_)
                refine lv_iload_n hx hb d_M_part_34 rfl (lv_at hl 3 rfl) ?_
                refine z_callR (va_runS (As := [.int (nI j9)]) (rest := []) ⟨hx, hb, hml, hown, hts⟩ (c_M_base l D dT _ (nI j9)) ⟨callB_of 1 hts (gI gd_up gd_c q650) rfl rfl rfl (ht _ q10) (ht _ q648) hd_M_base ⟨Nat.le_of_ble_eq_true rfl, Nat.le_of_ble_eq_true rfl⟩, ht _ q649⟩ (z_preS hK) rfl rfl hl.1 rfl (lv_room (Nat.le_of_ble_eq_true rfl)) d_M_part_35 ⟨Nat.zero_le _, Nat.zero_le _⟩) (fun v67 hv66 => ?_)
                subst hv66
                rw [show (160 * nI j9 : Int32) = nI (160 * j9) from pk_mul 160 j9]
                refine lv_istore (lv' := [(5, .int (nI (160 * j9))), (4, .int (nI (vty v8))), (0, .ref (mm 0)), (1, .int (nI j)), (2, .int (nI j9)), (3, .int 0)]) hx hb d_M_part_38 hl (by decide) rfl (fun ls hl => ?_)
                refine lv_iload hx hb d_M_part_40 (lv_at hl 0 rfl) ?_
                refine lv_aload_n hx hb d_M_part_42 rfl (lv_at hl 2 rfl) ?_
                refine va_get (D := D) (ci := 10) (v := .ref (mm 6)) (C := "ValueTreesModel") (T := T_M) (N := 12) hx hb ht in_M hown hK.1 hM.1 0 rfl rfl 6 (by decide) (ht _ q545) (fun _ h9 => h9) rfl d_M_part_43 ?_
                refine lv_iload_n hx hb d_M_part_46 rfl (lv_at hl 4 rfl) ?_
                refine z_iald hx hb hK (hM.1 6 _ rfl) j9 rfl (by omega) (by decide) d_M_part_47 ?_
                rw [es8]
                refine lv_iadd hx hb d_M_part_48 ?_
                rw [show (((nI (160 * j9)) + (nI (cs v8).length)) : Int32) = nI ((160 * j9) + ((cs v8).length)) from nI_add (160 * j9) ((cs v8).length)]
                refine lv_istore (lv' := [(6, .int (nI ((160 * j9) + ((cs v8).length)))), (5, .int (nI (160 * j9))), (4, .int (nI (vty v8))), (0, .ref (mm 0)), (1, .int (nI j)), (2, .int (nI j9)), (3, .int 0)]) hx hb d_M_part_49 hl (by decide) rfl (fun ls hl => ?_)
                refine lv_aload_n hx hb d_M_part_51 rfl (lv_at hl 3 rfl) ?_
                refine va_get (D := D) (ci := 10) (v := .ref (mm 1)) (C := "ValueTreesModel") (T := T_M) (N := 12) hx hb ht in_M hown hK.1 hM.1 0 rfl rfl 0 (by decide) (ht _ q539) (fun _ h9 => h9) rfl d_M_part_52 ?_
                refine lv_iload hx hb d_M_part_55 (lv_at hl 2 rfl) ?_
                refine z_iald hx hb hK (hM.1 1 _ rfl) (vty v8) rfl (by omega) (by decide) d_M_part_57 ?_
                rw [(hT _ ht8).1]
                refine lv_tableIn (tgt := 148) hx hb d_M_part_58 (by rw [show ((nI (tW (tb (vty v8)))) : Int32) = 14 from (by rw [hword]; rfl)]; decide) (by rw [show ((nI (tW (tb (vty v8)))) : Int32) = 14 from (by rw [hword]; rfl)]; decide) (by rw [show ((nI (tW (tb (vty v8)))) : Int32) = 14 from (by rw [hword]; rfl)]; rfl) (by decide) ?_
                refine lv_iload_n hx hb d_M_part_148 rfl (lv_at hl 6 rfl) ?_
                refine lv_if_le (tgt := 156) hx hb d_M_part_149 (by decide) (fun _ => ?_) (fun c68 => absurd c68 (by decide))
                refine lv_aload_n hx hb d_M_part_156 rfl (lv_at hl 3 rfl) ?_
                refine lv_iload_n hx hb d_M_part_157 rfl (lv_at hl 4 rfl) ?_
                refine lv_aload_n hx hb d_M_part_158 rfl (lv_at hl 3 rfl) ?_
                refine lv_iload hx hb d_M_part_159 (lv_at hl 1 rfl) ?_
                refine lv_iconst (v := 1) hx hb d_M_part_161 (by decide) ?_
                refine lv_iadd hx hb d_M_part_162 ?_
                rw [show (((nI (160 * j9)) + 1) : Int32) = nI ((160 * j9) + 1) from nI_add (160 * j9) 1]
                refine z_callR (va_runV (C := "ValueTreesModel") (As := [.int (nI ((160 * j9) + 1))]) (rest := [.int (nI j), .ref (mm 0)]) ⟨hx, hb, hml, hown, hts⟩ (c_M_byteOf l D dT _ mm wd lf rt tc ty F sz Wk wz dg dc sh hM ((160 * j9) + 1) (by omega) (hF _)) ⟨callB_of 1 hts (gI gd_up gd_c q670) rfl rfl rfl (ht _ q10) (ht _ q667) hd_M_byteOf ⟨Nat.le_of_ble_eq_true rfl, Nat.le_of_ble_eq_true rfl⟩, ht _ q669, ht _ qs29⟩ (z_preV hK (va_recv hK.1 hM.1 (ci := 10) (q0 := 0) rfl rfl)) rfl rfl hl.1 rfl (lv_room (Nat.le_of_ble_eq_true rfl)) d_M_part_163 ⟨Nat.zero_le _, Nat.zero_le _⟩) (fun v70 hv69 => ?_)
                subst hv69
                rw [hf1]
                refine lv_iconst (v := 5) hx hb d_M_part_166 (by decide) ?_
                refine lv_icmp_ne (tgt := 180) hx hb d_M_part_167 (by decide) (fun c71 => absurd ((nI_eq (a := 5) (b := 5) (by omega) (by omega)).mpr (by omega)) c71) (fun c71 => ?_)
                refine lv_aload_n hx hb d_M_part_170 rfl (lv_at hl 3 rfl) ?_
                refine va_get (D := D) (ci := 10) (v := .ref (mm 2)) (C := "ValueTreesModel") (T := T_M) (N := 12) hx hb ht in_M hown hK.1 hM.1 0 rfl rfl 1 (by decide) (ht _ q540) (fun _ h9 => h9) rfl d_M_part_171 ?_
                refine lv_iload hx hb d_M_part_174 (lv_at hl 2 rfl) ?_
                refine z_iald hx hb hK (hM.1 2 _ rfl) (vty v8) rfl (by omega) (by decide) d_M_part_176 ?_
                rw [elk]
                refine lv_goto (tgt := 187) hx hb d_M_part_177 (by decide) ?_
                refine lv_iload hx hb d_M_part_187 (lv_at hl 1 rfl) ?_
                refine lv_iconst (v := 2) hx hb d_M_part_189 (by decide) ?_
                refine lv_iadd hx hb d_M_part_190 ?_
                rw [show (((nI (160 * j9)) + 2) : Int32) = nI ((160 * j9) + 2) from nI_add (160 * j9) 2]
                refine lv_iload hx hb d_M_part_191 (lv_at hl 0 rfl) ?_
                rw [show (160 * j9) + ((cs v8).length) = (160 * j9) + 2 + (cs x).length from (by omega)]
                refine z_callQ (va_runV (C := "ValueTreesModel") (As := [.int (nI j), .int (nI (lt_ tb (vty v8))), .int (nI ((160 * j9) + 2)), .int (nI ((160 * j9) + 2 + (cs x).length))]) (rest := []) ⟨hx, hb, hml, hown, hts⟩ (c_M_take l D dT _ mm wd lf rt tc ty F sz Wk wz dg dc sh hM hF hWk j (lt_ tb (vty v8)) ((160 * j9) + 2) (cs x) hj hfz.2.2 (by omega) (by omega)) ⟨callB_of 4 hts (gI gd_up gd_c q790) rfl rfl rfl (ht _ q10) (ht _ q787) hd_M_take ⟨Nat.le_of_ble_eq_true rfl, Nat.le_of_ble_eq_true rfl⟩, ht _ q789, ht _ qs48⟩ (z_preV hK (va_recv hK.1 hM.1 (ci := 10) (q0 := 0) rfl rfl)) rfl rfl hl.1 rfl (lv_room (Nat.le_of_ble_eq_true rfl)) d_M_part_193 ⟨Nat.le_refl _, Nat.le_refl _⟩) hS (fun _ h9 => h9) (fun v73 H locs hv72 hz74 hf75 hS => ?_)
                obtain ⟨r9v, er9⟩ : ∃ r9 : Int32, v73 = some (.int r9) := by obtain ⟨_, _, _, _, _, -, ⟨-, e8, -⟩ | ⟨-, e8, -⟩⟩ := hv72 <;> exact ⟨_, e8⟩
                subst er9
                refine W.eq (g2 := F0 m 196 ls [.int r9v]) rfl ?_
                refine z_iretQ hx hb hr hlocks d_M_part_196 hS (Nat.le_refl _) (Nat.le_refl _) ?_
                have eo : o_part RV (nI j9) 0 = some x := by unfold o_part; rw [rgs_nI hj9, hV8, ec9]; try rfl
                rw [eo]
                exact kO_done (x := x) hv72 hO hT hR hj (by omega) hsub
              · have hf1 : F (160 * j9 + 1) = 8 := hfz.2.1
                have hlv : (cs v8).length = (cs v8).length := rfl
                obtain ⟨hLk, hltk, hlpk⟩ := tl_some hO ht8 (by omega)
                have elk : lf (vty v8) = nI (lt_ tb (vty v8)) := by rw [(hT _ ht8).2.1, hLk]; rfl
                obtain ⟨hRk, hrtk, hrpk⟩ := tr_some hO ht8 (by omega)
                have erk : rt (vty v8) = nI (rt_ tb (vty v8)) := by rw [(hT _ ht8).2.2, hRk]; rfl
                have hlx : (cs v8).length = 2 + (cs x).length := by rw [ec9, l_sub]
                refine lv_aload_n hx hb d_M_part_26 rfl (lv_at hl 0 rfl) ?_
                refine va_get (D := D) (ci := 10) (v := .ref (mm 4)) (C := "ValueTreesModel") (T := T_M) (N := 12) hx hb ht in_M hown hK.1 hM.1 0 rfl rfl 4 (by decide) (ht _ q543) (fun _ h9 => h9) rfl d_M_part_27 ?_
                refine lv_iload_n hx hb d_M_part_30 rfl (lv_at hl 2 rfl) ?_
                refine z_iald hx hb hK (hM.1 4 _ rfl) j9 rfl (by omega) (by decide) d_M_part_31 ?_
                rw [et8]
                refine lv_istore (lv' := [(4, .int (nI (vty v8))), (0, .ref (mm 0)), (1, .int (nI j)), (2, .int (nI j9)), (3, .int 0)]) hx hb d_M_part_32 hl (by decide) rfl (fun ls hl => ?_)
                refine lv_iload_n hx hb d_M_part_34 rfl (lv_at hl 3 rfl) ?_
                refine z_callR (va_runS (As := [.int (nI j9)]) (rest := []) ⟨hx, hb, hml, hown, hts⟩ (c_M_base l D dT _ (nI j9)) ⟨callB_of 1 hts (gI gd_up gd_c q650) rfl rfl rfl (ht _ q10) (ht _ q648) hd_M_base ⟨Nat.le_of_ble_eq_true rfl, Nat.le_of_ble_eq_true rfl⟩, ht _ q649⟩ (z_preS hK) rfl rfl hl.1 rfl (lv_room (Nat.le_of_ble_eq_true rfl)) d_M_part_35 ⟨Nat.zero_le _, Nat.zero_le _⟩) (fun v77 hv76 => ?_)
                subst hv76
                rw [show (160 * nI j9 : Int32) = nI (160 * j9) from pk_mul 160 j9]
                refine lv_istore (lv' := [(5, .int (nI (160 * j9))), (4, .int (nI (vty v8))), (0, .ref (mm 0)), (1, .int (nI j)), (2, .int (nI j9)), (3, .int 0)]) hx hb d_M_part_38 hl (by decide) rfl (fun ls hl => ?_)
                refine lv_iload hx hb d_M_part_40 (lv_at hl 0 rfl) ?_
                refine lv_aload_n hx hb d_M_part_42 rfl (lv_at hl 2 rfl) ?_
                refine va_get (D := D) (ci := 10) (v := .ref (mm 6)) (C := "ValueTreesModel") (T := T_M) (N := 12) hx hb ht in_M hown hK.1 hM.1 0 rfl rfl 6 (by decide) (ht _ q545) (fun _ h9 => h9) rfl d_M_part_43 ?_
                refine lv_iload_n hx hb d_M_part_46 rfl (lv_at hl 4 rfl) ?_
                refine z_iald hx hb hK (hM.1 6 _ rfl) j9 rfl (by omega) (by decide) d_M_part_47 ?_
                rw [es8]
                refine lv_iadd hx hb d_M_part_48 ?_
                rw [show (((nI (160 * j9)) + (nI (cs v8).length)) : Int32) = nI ((160 * j9) + ((cs v8).length)) from nI_add (160 * j9) ((cs v8).length)]
                refine lv_istore (lv' := [(6, .int (nI ((160 * j9) + ((cs v8).length)))), (5, .int (nI (160 * j9))), (4, .int (nI (vty v8))), (0, .ref (mm 0)), (1, .int (nI j)), (2, .int (nI j9)), (3, .int 0)]) hx hb d_M_part_49 hl (by decide) rfl (fun ls hl => ?_)
                refine lv_aload_n hx hb d_M_part_51 rfl (lv_at hl 3 rfl) ?_
                refine va_get (D := D) (ci := 10) (v := .ref (mm 1)) (C := "ValueTreesModel") (T := T_M) (N := 12) hx hb ht in_M hown hK.1 hM.1 0 rfl rfl 0 (by decide) (ht _ q539) (fun _ h9 => h9) rfl d_M_part_52 ?_
                refine lv_iload hx hb d_M_part_55 (lv_at hl 2 rfl) ?_
                refine z_iald hx hb hK (hM.1 1 _ rfl) (vty v8) rfl (by omega) (by decide) d_M_part_57 ?_
                rw [(hT _ ht8).1]
                refine lv_tableIn (tgt := 148) hx hb d_M_part_58 (by rw [show ((nI (tW (tb (vty v8)))) : Int32) = 14 from (by rw [hword]; rfl)]; decide) (by rw [show ((nI (tW (tb (vty v8)))) : Int32) = 14 from (by rw [hword]; rfl)]; decide) (by rw [show ((nI (tW (tb (vty v8)))) : Int32) = 14 from (by rw [hword]; rfl)]; rfl) (by decide) ?_
                refine lv_iload_n hx hb d_M_part_148 rfl (lv_at hl 6 rfl) ?_
                refine lv_if_le (tgt := 156) hx hb d_M_part_149 (by decide) (fun _ => ?_) (fun c78 => absurd c78 (by decide))
                refine lv_aload_n hx hb d_M_part_156 rfl (lv_at hl 3 rfl) ?_
                refine lv_iload_n hx hb d_M_part_157 rfl (lv_at hl 4 rfl) ?_
                refine lv_aload_n hx hb d_M_part_158 rfl (lv_at hl 3 rfl) ?_
                refine lv_iload hx hb d_M_part_159 (lv_at hl 1 rfl) ?_
                refine lv_iconst (v := 1) hx hb d_M_part_161 (by decide) ?_
                refine lv_iadd hx hb d_M_part_162 ?_
                rw [show (((nI (160 * j9)) + 1) : Int32) = nI ((160 * j9) + 1) from nI_add (160 * j9) 1]
                refine z_callR (va_runV (C := "ValueTreesModel") (As := [.int (nI ((160 * j9) + 1))]) (rest := [.int (nI j), .ref (mm 0)]) ⟨hx, hb, hml, hown, hts⟩ (c_M_byteOf l D dT _ mm wd lf rt tc ty F sz Wk wz dg dc sh hM ((160 * j9) + 1) (by omega) (hF _)) ⟨callB_of 1 hts (gI gd_up gd_c q670) rfl rfl rfl (ht _ q10) (ht _ q667) hd_M_byteOf ⟨Nat.le_of_ble_eq_true rfl, Nat.le_of_ble_eq_true rfl⟩, ht _ q669, ht _ qs29⟩ (z_preV hK (va_recv hK.1 hM.1 (ci := 10) (q0 := 0) rfl rfl)) rfl rfl hl.1 rfl (lv_room (Nat.le_of_ble_eq_true rfl)) d_M_part_163 ⟨Nat.zero_le _, Nat.zero_le _⟩) (fun v80 hv79 => ?_)
                subst hv79
                rw [hf1]
                refine lv_iconst (v := 5) hx hb d_M_part_166 (by decide) ?_
                refine lv_icmp_ne (tgt := 180) hx hb d_M_part_167 (by decide) (fun c81 => ?_) (fun c81 => absurd ((nI_eq (a := 8) (b := 5) (by omega) (by omega)).mp c81) (by omega))
                refine lv_aload_n hx hb d_M_part_180 rfl (lv_at hl 3 rfl) ?_
                refine va_get (D := D) (ci := 10) (v := .ref (mm 3)) (C := "ValueTreesModel") (T := T_M) (N := 12) hx hb ht in_M hown hK.1 hM.1 0 rfl rfl 2 (by decide) (ht _ q541) (fun _ h9 => h9) rfl d_M_part_181 ?_
                refine lv_iload hx hb d_M_part_184 (lv_at hl 2 rfl) ?_
                refine z_iald hx hb hK (hM.1 3 _ rfl) (vty v8) rfl (by omega) (by decide) d_M_part_186 ?_
                rw [erk]
                refine lv_iload hx hb d_M_part_187 (lv_at hl 1 rfl) ?_
                refine lv_iconst (v := 2) hx hb d_M_part_189 (by decide) ?_
                refine lv_iadd hx hb d_M_part_190 ?_
                rw [show (((nI (160 * j9)) + 2) : Int32) = nI ((160 * j9) + 2) from nI_add (160 * j9) 2]
                refine lv_iload hx hb d_M_part_191 (lv_at hl 0 rfl) ?_
                rw [show (160 * j9) + ((cs v8).length) = (160 * j9) + 2 + (cs x).length from (by omega)]
                refine z_callQ (va_runV (C := "ValueTreesModel") (As := [.int (nI j), .int (nI (rt_ tb (vty v8))), .int (nI ((160 * j9) + 2)), .int (nI ((160 * j9) + 2 + (cs x).length))]) (rest := []) ⟨hx, hb, hml, hown, hts⟩ (c_M_take l D dT _ mm wd lf rt tc ty F sz Wk wz dg dc sh hM hF hWk j (rt_ tb (vty v8)) ((160 * j9) + 2) (cs x) hj hfz.2.2 (by omega) (by omega)) ⟨callB_of 4 hts (gI gd_up gd_c q790) rfl rfl rfl (ht _ q10) (ht _ q787) hd_M_take ⟨Nat.le_of_ble_eq_true rfl, Nat.le_of_ble_eq_true rfl⟩, ht _ q789, ht _ qs48⟩ (z_preV hK (va_recv hK.1 hM.1 (ci := 10) (q0 := 0) rfl rfl)) rfl rfl hl.1 rfl (lv_room (Nat.le_of_ble_eq_true rfl)) d_M_part_193 ⟨Nat.le_refl _, Nat.le_refl _⟩) hS (fun _ h9 => h9) (fun v83 H locs hv82 hz84 hf85 hS => ?_)
                obtain ⟨r9v, er9⟩ : ∃ r9 : Int32, v83 = some (.int r9) := by obtain ⟨_, _, _, _, _, -, ⟨-, e8, -⟩ | ⟨-, e8, -⟩⟩ := hv82 <;> exact ⟨_, e8⟩
                subst er9
                refine W.eq (g2 := F0 m 196 ls [.int r9v]) rfl ?_
                refine z_iretQ hx hb hr hlocks d_M_part_196 hS (Nat.le_refl _) (Nat.le_refl _) ?_
                have eo : o_part RV (nI j9) 0 = some x := by unfold o_part; rw [rgs_nI hj9, hV8, ec9]; try rfl
                rw [eo]
                exact kO_done (x := x) hv82 hO hT hR hj (by omega) hsub
            | mul x y =>
              obtain ⟨hword, hx9, hy9⟩ : tW (tb (vty v8)) = 11 ∧ wty tb x 0 (lt_ tb (vty v8)) ∧ wty tb y 1 (vty v8) := by
                rcases hc9 with ⟨-, a1, a2, a3⟩ | ⟨a1, -⟩ | ⟨a1, -⟩
                · exact ⟨a1, a2, a3⟩
                · exact absurd a1 (by decide)
                · exact absurd a1 (by decide)
              have hcm : cs (.mul x y) = cs x ++ cs y := by rw [cs_mul, eb_pow hx9]
              rw [f_mul, hcm, fAt_app] at hfz
              rw [l_mul, hcm, List.length_append] at hlz
              have hge := cs_ge hx9
              have hlv : (cs v8).length = (cs v8).length := rfl
              obtain ⟨hLk, hltk, hlpk⟩ := tl_some hO ht8 (by omega)
              have elk : lf (vty v8) = nI (lt_ tb (vty v8)) := by rw [(hT _ ht8).2.1, hLk]; rfl
              have hlx : (cs v8).length = 5 + (cs x).length + (cs y).length := by rw [ec9, l_mul, hcm, List.length_append]; omega
              have hpk := (hO.2.2 _ (show lt_ tb (vty v8) < tc by omega)).2.2.2.2.2.2.2.2.1
              refine lv_aload_n hx hb d_M_part_26 rfl (lv_at hl 0 rfl) ?_
              refine va_get (D := D) (ci := 10) (v := .ref (mm 4)) (C := "ValueTreesModel") (T := T_M) (N := 12) hx hb ht in_M hown hK.1 hM.1 0 rfl rfl 4 (by decide) (ht _ q543) (fun _ h9 => h9) rfl d_M_part_27 ?_
              refine lv_iload_n hx hb d_M_part_30 rfl (lv_at hl 2 rfl) ?_
              refine z_iald hx hb hK (hM.1 4 _ rfl) j9 rfl (by omega) (by decide) d_M_part_31 ?_
              rw [et8]
              refine lv_istore (lv' := [(4, .int (nI (vty v8))), (0, .ref (mm 0)), (1, .int (nI j)), (2, .int (nI j9)), (3, .int 0)]) hx hb d_M_part_32 hl (by decide) rfl (fun ls hl => ?_)
              refine lv_iload_n hx hb d_M_part_34 rfl (lv_at hl 3 rfl) ?_
              refine z_callR (va_runS (As := [.int (nI j9)]) (rest := []) ⟨hx, hb, hml, hown, hts⟩ (c_M_base l D dT _ (nI j9)) ⟨callB_of 1 hts (gI gd_up gd_c q650) rfl rfl rfl (ht _ q10) (ht _ q648) hd_M_base ⟨Nat.le_of_ble_eq_true rfl, Nat.le_of_ble_eq_true rfl⟩, ht _ q649⟩ (z_preS hK) rfl rfl hl.1 rfl (lv_room (Nat.le_of_ble_eq_true rfl)) d_M_part_35 ⟨Nat.zero_le _, Nat.zero_le _⟩) (fun v87 hv86 => ?_)
              subst hv86
              rw [show (160 * nI j9 : Int32) = nI (160 * j9) from pk_mul 160 j9]
              refine lv_istore (lv' := [(5, .int (nI (160 * j9))), (4, .int (nI (vty v8))), (0, .ref (mm 0)), (1, .int (nI j)), (2, .int (nI j9)), (3, .int 0)]) hx hb d_M_part_38 hl (by decide) rfl (fun ls hl => ?_)
              refine lv_iload hx hb d_M_part_40 (lv_at hl 0 rfl) ?_
              refine lv_aload_n hx hb d_M_part_42 rfl (lv_at hl 2 rfl) ?_
              refine va_get (D := D) (ci := 10) (v := .ref (mm 6)) (C := "ValueTreesModel") (T := T_M) (N := 12) hx hb ht in_M hown hK.1 hM.1 0 rfl rfl 6 (by decide) (ht _ q545) (fun _ h9 => h9) rfl d_M_part_43 ?_
              refine lv_iload_n hx hb d_M_part_46 rfl (lv_at hl 4 rfl) ?_
              refine z_iald hx hb hK (hM.1 6 _ rfl) j9 rfl (by omega) (by decide) d_M_part_47 ?_
              rw [es8]
              refine lv_iadd hx hb d_M_part_48 ?_
              rw [show (((nI (160 * j9)) + (nI (cs v8).length)) : Int32) = nI ((160 * j9) + ((cs v8).length)) from nI_add (160 * j9) ((cs v8).length)]
              refine lv_istore (lv' := [(6, .int (nI ((160 * j9) + ((cs v8).length)))), (5, .int (nI (160 * j9))), (4, .int (nI (vty v8))), (0, .ref (mm 0)), (1, .int (nI j)), (2, .int (nI j9)), (3, .int 0)]) hx hb d_M_part_49 hl (by decide) rfl (fun ls hl => ?_)
              refine lv_aload_n hx hb d_M_part_51 rfl (lv_at hl 3 rfl) ?_
              refine va_get (D := D) (ci := 10) (v := .ref (mm 1)) (C := "ValueTreesModel") (T := T_M) (N := 12) hx hb ht in_M hown hK.1 hM.1 0 rfl rfl 0 (by decide) (ht _ q539) (fun _ h9 => h9) rfl d_M_part_52 ?_
              refine lv_iload hx hb d_M_part_55 (lv_at hl 2 rfl) ?_
              refine z_iald hx hb hK (hM.1 1 _ rfl) (vty v8) rfl (by omega) (by decide) d_M_part_57 ?_
              rw [(hT _ ht8).1]
              refine lv_tableIn (tgt := 256) hx hb d_M_part_58 (by rw [show ((nI (tW (tb (vty v8)))) : Int32) = 11 from (by rw [hword]; rfl)]; decide) (by rw [show ((nI (tW (tb (vty v8)))) : Int32) = 11 from (by rw [hword]; rfl)]; decide) (by rw [show ((nI (tW (tb (vty v8)))) : Int32) = 11 from (by rw [hword]; rfl)]; rfl) (by decide) ?_
              refine lv_aload_n hx hb d_M_part_256 rfl (lv_at hl 3 rfl) ?_
              refine va_get (D := D) (ci := 10) (v := .ref (mm 6)) (C := "ValueTreesModel") (T := T_M) (N := 12) hx hb ht in_M hown hK.1 hM.1 0 rfl rfl 6 (by decide) (ht _ q545) (fun _ h9 => h9) rfl d_M_part_257 ?_
              refine lv_iload_n hx hb d_M_part_260 rfl (lv_at hl 5 rfl) ?_
              refine z_iald hx hb hK (hM.1 6 _ rfl) j9 rfl (by omega) (by decide) d_M_part_261 ?_
              rw [es8]
              refine lv_iconst (v := 5) hx hb d_M_part_262 (by decide) ?_
              refine lv_icmp_ne (tgt := 268) hx hb d_M_part_263 (by decide) (fun c88 => ?_) (fun c88 => ?_)
              · have nc88 : ¬ ((cs v8).length) = 5 := fun h9 => c88 ((nI_eq (a := ((cs v8).length)) (b := 5) (by omega) (by omega)).mpr h9)
                refine lv_aload_n hx hb d_M_part_268 rfl (lv_at hl 3 rfl) ?_
                refine lv_aload_n hx hb d_M_part_269 rfl (lv_at hl 3 rfl) ?_
                refine va_get (D := D) (ci := 10) (v := .ref (mm 2)) (C := "ValueTreesModel") (T := T_M) (N := 12) hx hb ht in_M hown hK.1 hM.1 0 rfl rfl 1 (by decide) (ht _ q540) (fun _ h9 => h9) rfl d_M_part_270 ?_
                refine lv_iload hx hb d_M_part_273 (lv_at hl 2 rfl) ?_
                refine z_iald hx hb hK (hM.1 2 _ rfl) (vty v8) rfl (by omega) (by decide) d_M_part_275 ?_
                rw [elk]
                refine lv_iload hx hb d_M_part_276 (lv_at hl 1 rfl) ?_
                refine lv_iconst (v := 5) hx hb d_M_part_278 (by decide) ?_
                refine lv_iadd hx hb d_M_part_279 ?_
                rw [show (((nI (160 * j9)) + 5) : Int32) = nI ((160 * j9) + 5) from nI_add (160 * j9) 5]
                refine z_callR (va_runV (C := "ValueTreesModel") (As := [.int (nI (lt_ tb (vty v8))), .int (nI ((160 * j9) + 5))]) (rest := []) ⟨hx, hb, hml, hown, hts⟩ (c_M_end l D dT _ mm wd lf rt tc ty F sz Wk wz dg dc sh hM hF tb hO hT 200 (lt_ tb (vty v8)) x ((160 * j9) + 5) (by omega) (by omega) hx9 hfz.2.2.1 (by omega)) ⟨callB_of 2 hts (gI gd_up gd_c q762) rfl rfl rfl (ht _ q10) (ht _ q759) hd_M_end ⟨Nat.le_of_ble_eq_true rfl, Nat.le_of_ble_eq_true rfl⟩, ht _ q761, ht _ qs43⟩ (z_preV hK (va_recv hK.1 hM.1 (ci := 10) (q0 := 0) rfl rfl)) rfl rfl hl.1 rfl (lv_room (Nat.le_of_ble_eq_true rfl)) d_M_part_280 ⟨Nat.zero_le _, Nat.zero_le _⟩) (fun v90 hv89 => ?_)
                subst hv89
                refine lv_istore (lv' := [(8, .int (nI ((160 * j9) + 5 + (cs x).length))), (6, .int (nI ((160 * j9) + ((cs v8).length)))), (5, .int (nI (160 * j9))), (4, .int (nI (vty v8))), (0, .ref (mm 0)), (1, .int (nI j)), (2, .int (nI j9)), (3, .int 0)]) hx hb d_M_part_283 hl (by decide) rfl (fun ls hl => ?_)
                refine lv_iload_n hx hb d_M_part_285 rfl (lv_at hl 7 rfl) ?_
                refine lv_if_ne (tgt := 308) hx hb d_M_part_286 (by decide) (fun c91 => absurd c91 (by decide)) (fun _ => ?_)
                refine lv_aload_n hx hb d_M_part_289 rfl (lv_at hl 4 rfl) ?_
                refine lv_iload_n hx hb d_M_part_290 rfl (lv_at hl 5 rfl) ?_
                refine lv_aload_n hx hb d_M_part_291 rfl (lv_at hl 4 rfl) ?_
                refine va_get (D := D) (ci := 10) (v := .ref (mm 2)) (C := "ValueTreesModel") (T := T_M) (N := 12) hx hb ht in_M hown hK.1 hM.1 0 rfl rfl 1 (by decide) (ht _ q540) (fun _ h9 => h9) rfl d_M_part_292 ?_
                refine lv_iload hx hb d_M_part_295 (lv_at hl 3 rfl) ?_
                refine z_iald hx hb hK (hM.1 2 _ rfl) (vty v8) rfl (by omega) (by decide) d_M_part_297 ?_
                rw [elk]
                refine lv_iload hx hb d_M_part_298 (lv_at hl 2 rfl) ?_
                refine lv_iconst (v := 5) hx hb d_M_part_300 (by decide) ?_
                refine lv_iadd hx hb d_M_part_301 ?_
                rw [show (((nI (160 * j9)) + 5) : Int32) = nI ((160 * j9) + 5) from nI_add (160 * j9) 5]
                refine lv_iload hx hb d_M_part_302 (lv_at hl 0 rfl) ?_
                rw [show (160 * j9) + 5 + (cs x).length = (160 * j9) + 5 + (cs x).length from (by omega)]
                refine z_callQ (va_runV (C := "ValueTreesModel") (As := [.int (nI j), .int (nI (lt_ tb (vty v8))), .int (nI ((160 * j9) + 5)), .int (nI ((160 * j9) + 5 + (cs x).length))]) (rest := []) ⟨hx, hb, hml, hown, hts⟩ (c_M_take l D dT _ mm wd lf rt tc ty F sz Wk wz dg dc sh hM hF hWk j (lt_ tb (vty v8)) ((160 * j9) + 5) (cs x) hj hfz.2.2.1 (by omega) (by omega)) ⟨callB_of 4 hts (gI gd_up gd_c q790) rfl rfl rfl (ht _ q10) (ht _ q787) hd_M_take ⟨Nat.le_of_ble_eq_true rfl, Nat.le_of_ble_eq_true rfl⟩, ht _ q789, ht _ qs48⟩ (z_preV hK (va_recv hK.1 hM.1 (ci := 10) (q0 := 0) rfl rfl)) rfl rfl hl.1 rfl (lv_room (Nat.le_of_ble_eq_true rfl)) d_M_part_304 ⟨Nat.le_refl _, Nat.le_refl _⟩) hS (fun _ h9 => h9) (fun v93 H locs hv92 hz94 hf95 hS => ?_)
                obtain ⟨r9v, er9⟩ : ∃ r9 : Int32, v93 = some (.int r9) := by obtain ⟨_, _, _, _, _, -, ⟨-, e8, -⟩ | ⟨-, e8, -⟩⟩ := hv92 <;> exact ⟨_, e8⟩
                subst er9
                refine W.eq (g2 := F0 m 307 ls [.int r9v]) rfl ?_
                refine z_iretQ hx hb hr hlocks d_M_part_307 hS (Nat.le_refl _) (Nat.le_refl _) ?_
                have eo : o_part RV (nI j9) 0 = some x := by unfold o_part; rw [rgs_nI hj9, hV8, ec9]; try rfl
                rw [eo]
                exact kO_done (x := x) hv92 hO hT hR hj (by omega) hx9
              · have nc88 : ((cs v8).length) = 5 := (nI_eq (a := ((cs v8).length)) (b := 5) (by omega) (by omega)).mp c88
                exact absurd nc88 (by omega)
            | pow c8 t8 =>
              exact absurd hc9.1 (by decide)
          · obtain ⟨c9, ec9, hc9⟩ := wty_pow hw8
            have hfz := hf8
            have hlz := hn8
            rw [ec9] at hfz hlz
            cases c9 with
            | num z =>
              have hword : tW (tb (vty v8)) = 2 ∨ tW (tb (vty v8)) = 3 ∨ tW (tb (vty v8)) = 4 ∨ tW (tb (vty v8)) = 8 := hc9.2.1
              rcases hword with hword | hword | hword | hword
              · have hlv : (cs v8).length = (cs v8).length := rfl
                refine lv_aload_n hx hb d_M_part_26 rfl (lv_at hl 0 rfl) ?_
                refine va_get (D := D) (ci := 10) (v := .ref (mm 4)) (C := "ValueTreesModel") (T := T_M) (N := 12) hx hb ht in_M hown hK.1 hM.1 0 rfl rfl 4 (by decide) (ht _ q543) (fun _ h9 => h9) rfl d_M_part_27 ?_
                refine lv_iload_n hx hb d_M_part_30 rfl (lv_at hl 2 rfl) ?_
                refine z_iald hx hb hK (hM.1 4 _ rfl) j9 rfl (by omega) (by decide) d_M_part_31 ?_
                rw [et8]
                refine lv_istore (lv' := [(4, .int (nI (vty v8))), (0, .ref (mm 0)), (1, .int (nI j)), (2, .int (nI j9)), (3, .int 1)]) hx hb d_M_part_32 hl (by decide) rfl (fun ls hl => ?_)
                refine lv_iload_n hx hb d_M_part_34 rfl (lv_at hl 3 rfl) ?_
                refine z_callR (va_runS (As := [.int (nI j9)]) (rest := []) ⟨hx, hb, hml, hown, hts⟩ (c_M_base l D dT _ (nI j9)) ⟨callB_of 1 hts (gI gd_up gd_c q650) rfl rfl rfl (ht _ q10) (ht _ q648) hd_M_base ⟨Nat.le_of_ble_eq_true rfl, Nat.le_of_ble_eq_true rfl⟩, ht _ q649⟩ (z_preS hK) rfl rfl hl.1 rfl (lv_room (Nat.le_of_ble_eq_true rfl)) d_M_part_35 ⟨Nat.zero_le _, Nat.zero_le _⟩) (fun v97 hv96 => ?_)
                subst hv96
                rw [show (160 * nI j9 : Int32) = nI (160 * j9) from pk_mul 160 j9]
                refine lv_istore (lv' := [(5, .int (nI (160 * j9))), (4, .int (nI (vty v8))), (0, .ref (mm 0)), (1, .int (nI j)), (2, .int (nI j9)), (3, .int 1)]) hx hb d_M_part_38 hl (by decide) rfl (fun ls hl => ?_)
                refine lv_iload hx hb d_M_part_40 (lv_at hl 0 rfl) ?_
                refine lv_aload_n hx hb d_M_part_42 rfl (lv_at hl 2 rfl) ?_
                refine va_get (D := D) (ci := 10) (v := .ref (mm 6)) (C := "ValueTreesModel") (T := T_M) (N := 12) hx hb ht in_M hown hK.1 hM.1 0 rfl rfl 6 (by decide) (ht _ q545) (fun _ h9 => h9) rfl d_M_part_43 ?_
                refine lv_iload_n hx hb d_M_part_46 rfl (lv_at hl 4 rfl) ?_
                refine z_iald hx hb hK (hM.1 6 _ rfl) j9 rfl (by omega) (by decide) d_M_part_47 ?_
                rw [es8]
                refine lv_iadd hx hb d_M_part_48 ?_
                rw [show (((nI (160 * j9)) + (nI (cs v8).length)) : Int32) = nI ((160 * j9) + ((cs v8).length)) from nI_add (160 * j9) ((cs v8).length)]
                refine lv_istore (lv' := [(6, .int (nI ((160 * j9) + ((cs v8).length)))), (5, .int (nI (160 * j9))), (4, .int (nI (vty v8))), (0, .ref (mm 0)), (1, .int (nI j)), (2, .int (nI j9)), (3, .int 1)]) hx hb d_M_part_49 hl (by decide) rfl (fun ls hl => ?_)
                refine lv_aload_n hx hb d_M_part_51 rfl (lv_at hl 3 rfl) ?_
                refine va_get (D := D) (ci := 10) (v := .ref (mm 1)) (C := "ValueTreesModel") (T := T_M) (N := 12) hx hb ht in_M hown hK.1 hM.1 0 rfl rfl 0 (by decide) (ht _ q539) (fun _ h9 => h9) rfl d_M_part_52 ?_
                refine lv_iload hx hb d_M_part_55 (lv_at hl 2 rfl) ?_
                refine z_iald hx hb hK (hM.1 1 _ rfl) (vty v8) rfl (by omega) (by decide) d_M_part_57 ?_
                rw [(hT _ ht8).1]
                refine lv_tableOut (tgt := 343) hx hb d_M_part_58 (by rw [show ((nI (tW (tb (vty v8)))) : Int32) = 2 from (by rw [hword]; rfl)]; decide) (by decide) ?_
                refine lv_iconst (v := (-1)) hx hb d_M_part_343 (by decide) ?_
                refine z_iretQ hx hb hr hlocks d_M_part_344 hS (Nat.le_refl _) (Nat.le_refl _) ?_
                have eo : o_part RV (nI j9) 1 = none := by unfold o_part; rw [rgs_nI hj9, hV8, ec9]; try rfl
                rw [eo]
                exact ⟨rfl, _, _, _, _, _, _, _, _, _, _, _, hM, hO, hT, hR, hWk⟩
              · have hlv : (cs v8).length = (cs v8).length := rfl
                refine lv_aload_n hx hb d_M_part_26 rfl (lv_at hl 0 rfl) ?_
                refine va_get (D := D) (ci := 10) (v := .ref (mm 4)) (C := "ValueTreesModel") (T := T_M) (N := 12) hx hb ht in_M hown hK.1 hM.1 0 rfl rfl 4 (by decide) (ht _ q543) (fun _ h9 => h9) rfl d_M_part_27 ?_
                refine lv_iload_n hx hb d_M_part_30 rfl (lv_at hl 2 rfl) ?_
                refine z_iald hx hb hK (hM.1 4 _ rfl) j9 rfl (by omega) (by decide) d_M_part_31 ?_
                rw [et8]
                refine lv_istore (lv' := [(4, .int (nI (vty v8))), (0, .ref (mm 0)), (1, .int (nI j)), (2, .int (nI j9)), (3, .int 1)]) hx hb d_M_part_32 hl (by decide) rfl (fun ls hl => ?_)
                refine lv_iload_n hx hb d_M_part_34 rfl (lv_at hl 3 rfl) ?_
                refine z_callR (va_runS (As := [.int (nI j9)]) (rest := []) ⟨hx, hb, hml, hown, hts⟩ (c_M_base l D dT _ (nI j9)) ⟨callB_of 1 hts (gI gd_up gd_c q650) rfl rfl rfl (ht _ q10) (ht _ q648) hd_M_base ⟨Nat.le_of_ble_eq_true rfl, Nat.le_of_ble_eq_true rfl⟩, ht _ q649⟩ (z_preS hK) rfl rfl hl.1 rfl (lv_room (Nat.le_of_ble_eq_true rfl)) d_M_part_35 ⟨Nat.zero_le _, Nat.zero_le _⟩) (fun v99 hv98 => ?_)
                subst hv98
                rw [show (160 * nI j9 : Int32) = nI (160 * j9) from pk_mul 160 j9]
                refine lv_istore (lv' := [(5, .int (nI (160 * j9))), (4, .int (nI (vty v8))), (0, .ref (mm 0)), (1, .int (nI j)), (2, .int (nI j9)), (3, .int 1)]) hx hb d_M_part_38 hl (by decide) rfl (fun ls hl => ?_)
                refine lv_iload hx hb d_M_part_40 (lv_at hl 0 rfl) ?_
                refine lv_aload_n hx hb d_M_part_42 rfl (lv_at hl 2 rfl) ?_
                refine va_get (D := D) (ci := 10) (v := .ref (mm 6)) (C := "ValueTreesModel") (T := T_M) (N := 12) hx hb ht in_M hown hK.1 hM.1 0 rfl rfl 6 (by decide) (ht _ q545) (fun _ h9 => h9) rfl d_M_part_43 ?_
                refine lv_iload_n hx hb d_M_part_46 rfl (lv_at hl 4 rfl) ?_
                refine z_iald hx hb hK (hM.1 6 _ rfl) j9 rfl (by omega) (by decide) d_M_part_47 ?_
                rw [es8]
                refine lv_iadd hx hb d_M_part_48 ?_
                rw [show (((nI (160 * j9)) + (nI (cs v8).length)) : Int32) = nI ((160 * j9) + ((cs v8).length)) from nI_add (160 * j9) ((cs v8).length)]
                refine lv_istore (lv' := [(6, .int (nI ((160 * j9) + ((cs v8).length)))), (5, .int (nI (160 * j9))), (4, .int (nI (vty v8))), (0, .ref (mm 0)), (1, .int (nI j)), (2, .int (nI j9)), (3, .int 1)]) hx hb d_M_part_49 hl (by decide) rfl (fun ls hl => ?_)
                refine lv_aload_n hx hb d_M_part_51 rfl (lv_at hl 3 rfl) ?_
                refine va_get (D := D) (ci := 10) (v := .ref (mm 1)) (C := "ValueTreesModel") (T := T_M) (N := 12) hx hb ht in_M hown hK.1 hM.1 0 rfl rfl 0 (by decide) (ht _ q539) (fun _ h9 => h9) rfl d_M_part_52 ?_
                refine lv_iload hx hb d_M_part_55 (lv_at hl 2 rfl) ?_
                refine z_iald hx hb hK (hM.1 1 _ rfl) (vty v8) rfl (by omega) (by decide) d_M_part_57 ?_
                rw [(hT _ ht8).1]
                refine lv_tableOut (tgt := 343) hx hb d_M_part_58 (by rw [show ((nI (tW (tb (vty v8)))) : Int32) = 3 from (by rw [hword]; rfl)]; decide) (by decide) ?_
                refine lv_iconst (v := (-1)) hx hb d_M_part_343 (by decide) ?_
                refine z_iretQ hx hb hr hlocks d_M_part_344 hS (Nat.le_refl _) (Nat.le_refl _) ?_
                have eo : o_part RV (nI j9) 1 = none := by unfold o_part; rw [rgs_nI hj9, hV8, ec9]; try rfl
                rw [eo]
                exact ⟨rfl, _, _, _, _, _, _, _, _, _, _, _, hM, hO, hT, hR, hWk⟩
              · have hlv : (cs v8).length = (cs v8).length := rfl
                refine lv_aload_n hx hb d_M_part_26 rfl (lv_at hl 0 rfl) ?_
                refine va_get (D := D) (ci := 10) (v := .ref (mm 4)) (C := "ValueTreesModel") (T := T_M) (N := 12) hx hb ht in_M hown hK.1 hM.1 0 rfl rfl 4 (by decide) (ht _ q543) (fun _ h9 => h9) rfl d_M_part_27 ?_
                refine lv_iload_n hx hb d_M_part_30 rfl (lv_at hl 2 rfl) ?_
                refine z_iald hx hb hK (hM.1 4 _ rfl) j9 rfl (by omega) (by decide) d_M_part_31 ?_
                rw [et8]
                refine lv_istore (lv' := [(4, .int (nI (vty v8))), (0, .ref (mm 0)), (1, .int (nI j)), (2, .int (nI j9)), (3, .int 1)]) hx hb d_M_part_32 hl (by decide) rfl (fun ls hl => ?_)
                refine lv_iload_n hx hb d_M_part_34 rfl (lv_at hl 3 rfl) ?_
                refine z_callR (va_runS (As := [.int (nI j9)]) (rest := []) ⟨hx, hb, hml, hown, hts⟩ (c_M_base l D dT _ (nI j9)) ⟨callB_of 1 hts (gI gd_up gd_c q650) rfl rfl rfl (ht _ q10) (ht _ q648) hd_M_base ⟨Nat.le_of_ble_eq_true rfl, Nat.le_of_ble_eq_true rfl⟩, ht _ q649⟩ (z_preS hK) rfl rfl hl.1 rfl (lv_room (Nat.le_of_ble_eq_true rfl)) d_M_part_35 ⟨Nat.zero_le _, Nat.zero_le _⟩) (fun v101 hv100 => ?_)
                subst hv100
                rw [show (160 * nI j9 : Int32) = nI (160 * j9) from pk_mul 160 j9]
                refine lv_istore (lv' := [(5, .int (nI (160 * j9))), (4, .int (nI (vty v8))), (0, .ref (mm 0)), (1, .int (nI j)), (2, .int (nI j9)), (3, .int 1)]) hx hb d_M_part_38 hl (by decide) rfl (fun ls hl => ?_)
                refine lv_iload hx hb d_M_part_40 (lv_at hl 0 rfl) ?_
                refine lv_aload_n hx hb d_M_part_42 rfl (lv_at hl 2 rfl) ?_
                refine va_get (D := D) (ci := 10) (v := .ref (mm 6)) (C := "ValueTreesModel") (T := T_M) (N := 12) hx hb ht in_M hown hK.1 hM.1 0 rfl rfl 6 (by decide) (ht _ q545) (fun _ h9 => h9) rfl d_M_part_43 ?_
                refine lv_iload_n hx hb d_M_part_46 rfl (lv_at hl 4 rfl) ?_
                refine z_iald hx hb hK (hM.1 6 _ rfl) j9 rfl (by omega) (by decide) d_M_part_47 ?_
                rw [es8]
                refine lv_iadd hx hb d_M_part_48 ?_
                rw [show (((nI (160 * j9)) + (nI (cs v8).length)) : Int32) = nI ((160 * j9) + ((cs v8).length)) from nI_add (160 * j9) ((cs v8).length)]
                refine lv_istore (lv' := [(6, .int (nI ((160 * j9) + ((cs v8).length)))), (5, .int (nI (160 * j9))), (4, .int (nI (vty v8))), (0, .ref (mm 0)), (1, .int (nI j)), (2, .int (nI j9)), (3, .int 1)]) hx hb d_M_part_49 hl (by decide) rfl (fun ls hl => ?_)
                refine lv_aload_n hx hb d_M_part_51 rfl (lv_at hl 3 rfl) ?_
                refine va_get (D := D) (ci := 10) (v := .ref (mm 1)) (C := "ValueTreesModel") (T := T_M) (N := 12) hx hb ht in_M hown hK.1 hM.1 0 rfl rfl 0 (by decide) (ht _ q539) (fun _ h9 => h9) rfl d_M_part_52 ?_
                refine lv_iload hx hb d_M_part_55 (lv_at hl 2 rfl) ?_
                refine z_iald hx hb hK (hM.1 1 _ rfl) (vty v8) rfl (by omega) (by decide) d_M_part_57 ?_
                rw [(hT _ ht8).1]
                refine lv_tableOut (tgt := 343) hx hb d_M_part_58 (by rw [show ((nI (tW (tb (vty v8)))) : Int32) = 4 from (by rw [hword]; rfl)]; decide) (by decide) ?_
                refine lv_iconst (v := (-1)) hx hb d_M_part_343 (by decide) ?_
                refine z_iretQ hx hb hr hlocks d_M_part_344 hS (Nat.le_refl _) (Nat.le_refl _) ?_
                have eo : o_part RV (nI j9) 1 = none := by unfold o_part; rw [rgs_nI hj9, hV8, ec9]; try rfl
                rw [eo]
                exact ⟨rfl, _, _, _, _, _, _, _, _, _, _, _, hM, hO, hT, hR, hWk⟩
              · have hlv : (cs v8).length = (cs v8).length := rfl
                refine lv_aload_n hx hb d_M_part_26 rfl (lv_at hl 0 rfl) ?_
                refine va_get (D := D) (ci := 10) (v := .ref (mm 4)) (C := "ValueTreesModel") (T := T_M) (N := 12) hx hb ht in_M hown hK.1 hM.1 0 rfl rfl 4 (by decide) (ht _ q543) (fun _ h9 => h9) rfl d_M_part_27 ?_
                refine lv_iload_n hx hb d_M_part_30 rfl (lv_at hl 2 rfl) ?_
                refine z_iald hx hb hK (hM.1 4 _ rfl) j9 rfl (by omega) (by decide) d_M_part_31 ?_
                rw [et8]
                refine lv_istore (lv' := [(4, .int (nI (vty v8))), (0, .ref (mm 0)), (1, .int (nI j)), (2, .int (nI j9)), (3, .int 1)]) hx hb d_M_part_32 hl (by decide) rfl (fun ls hl => ?_)
                refine lv_iload_n hx hb d_M_part_34 rfl (lv_at hl 3 rfl) ?_
                refine z_callR (va_runS (As := [.int (nI j9)]) (rest := []) ⟨hx, hb, hml, hown, hts⟩ (c_M_base l D dT _ (nI j9)) ⟨callB_of 1 hts (gI gd_up gd_c q650) rfl rfl rfl (ht _ q10) (ht _ q648) hd_M_base ⟨Nat.le_of_ble_eq_true rfl, Nat.le_of_ble_eq_true rfl⟩, ht _ q649⟩ (z_preS hK) rfl rfl hl.1 rfl (lv_room (Nat.le_of_ble_eq_true rfl)) d_M_part_35 ⟨Nat.zero_le _, Nat.zero_le _⟩) (fun v103 hv102 => ?_)
                subst hv102
                rw [show (160 * nI j9 : Int32) = nI (160 * j9) from pk_mul 160 j9]
                refine lv_istore (lv' := [(5, .int (nI (160 * j9))), (4, .int (nI (vty v8))), (0, .ref (mm 0)), (1, .int (nI j)), (2, .int (nI j9)), (3, .int 1)]) hx hb d_M_part_38 hl (by decide) rfl (fun ls hl => ?_)
                refine lv_iload hx hb d_M_part_40 (lv_at hl 0 rfl) ?_
                refine lv_aload_n hx hb d_M_part_42 rfl (lv_at hl 2 rfl) ?_
                refine va_get (D := D) (ci := 10) (v := .ref (mm 6)) (C := "ValueTreesModel") (T := T_M) (N := 12) hx hb ht in_M hown hK.1 hM.1 0 rfl rfl 6 (by decide) (ht _ q545) (fun _ h9 => h9) rfl d_M_part_43 ?_
                refine lv_iload_n hx hb d_M_part_46 rfl (lv_at hl 4 rfl) ?_
                refine z_iald hx hb hK (hM.1 6 _ rfl) j9 rfl (by omega) (by decide) d_M_part_47 ?_
                rw [es8]
                refine lv_iadd hx hb d_M_part_48 ?_
                rw [show (((nI (160 * j9)) + (nI (cs v8).length)) : Int32) = nI ((160 * j9) + ((cs v8).length)) from nI_add (160 * j9) ((cs v8).length)]
                refine lv_istore (lv' := [(6, .int (nI ((160 * j9) + ((cs v8).length)))), (5, .int (nI (160 * j9))), (4, .int (nI (vty v8))), (0, .ref (mm 0)), (1, .int (nI j)), (2, .int (nI j9)), (3, .int 1)]) hx hb d_M_part_49 hl (by decide) rfl (fun ls hl => ?_)
                refine lv_aload_n hx hb d_M_part_51 rfl (lv_at hl 3 rfl) ?_
                refine va_get (D := D) (ci := 10) (v := .ref (mm 1)) (C := "ValueTreesModel") (T := T_M) (N := 12) hx hb ht in_M hown hK.1 hM.1 0 rfl rfl 0 (by decide) (ht _ q539) (fun _ h9 => h9) rfl d_M_part_52 ?_
                refine lv_iload hx hb d_M_part_55 (lv_at hl 2 rfl) ?_
                refine z_iald hx hb hK (hM.1 1 _ rfl) (vty v8) rfl (by omega) (by decide) d_M_part_57 ?_
                rw [(hT _ ht8).1]
                refine lv_tableOut (tgt := 343) hx hb d_M_part_58 (by rw [show ((nI (tW (tb (vty v8)))) : Int32) = 8 from (by rw [hword]; rfl)]; decide) (by decide) ?_
                refine lv_iconst (v := (-1)) hx hb d_M_part_343 (by decide) ?_
                refine z_iretQ hx hb hr hlocks d_M_part_344 hS (Nat.le_refl _) (Nat.le_refl _) ?_
                have eo : o_part RV (nI j9) 1 = none := by unfold o_part; rw [rgs_nI hj9, hV8, ec9]; try rfl
                rw [eo]
                exact ⟨rfl, _, _, _, _, _, _, _, _, _, _, _, hM, hO, hT, hR, hWk⟩
            | natCast k =>
              have hword : tW (tb (vty v8)) = 5 ∨ tW (tb (vty v8)) = 6 := hc9.2.1
              have hk8 : k % 16 ≤ 8 := hc9.2.2.1
              rw [f_row] at hfz
              rw [l_row] at hlz
              rcases hword with hword | hword
              · have hlv : (cs v8).length = (cs v8).length := rfl
                refine lv_aload_n hx hb d_M_part_26 rfl (lv_at hl 0 rfl) ?_
                refine va_get (D := D) (ci := 10) (v := .ref (mm 4)) (C := "ValueTreesModel") (T := T_M) (N := 12) hx hb ht in_M hown hK.1 hM.1 0 rfl rfl 4 (by decide) (ht _ q543) (fun _ h9 => h9) rfl d_M_part_27 ?_
                refine lv_iload_n hx hb d_M_part_30 rfl (lv_at hl 2 rfl) ?_
                refine z_iald hx hb hK (hM.1 4 _ rfl) j9 rfl (by omega) (by decide) d_M_part_31 ?_
                rw [et8]
                refine lv_istore (lv' := [(4, .int (nI (vty v8))), (0, .ref (mm 0)), (1, .int (nI j)), (2, .int (nI j9)), (3, .int 1)]) hx hb d_M_part_32 hl (by decide) rfl (fun ls hl => ?_)
                refine lv_iload_n hx hb d_M_part_34 rfl (lv_at hl 3 rfl) ?_
                refine z_callR (va_runS (As := [.int (nI j9)]) (rest := []) ⟨hx, hb, hml, hown, hts⟩ (c_M_base l D dT _ (nI j9)) ⟨callB_of 1 hts (gI gd_up gd_c q650) rfl rfl rfl (ht _ q10) (ht _ q648) hd_M_base ⟨Nat.le_of_ble_eq_true rfl, Nat.le_of_ble_eq_true rfl⟩, ht _ q649⟩ (z_preS hK) rfl rfl hl.1 rfl (lv_room (Nat.le_of_ble_eq_true rfl)) d_M_part_35 ⟨Nat.zero_le _, Nat.zero_le _⟩) (fun v105 hv104 => ?_)
                subst hv104
                rw [show (160 * nI j9 : Int32) = nI (160 * j9) from pk_mul 160 j9]
                refine lv_istore (lv' := [(5, .int (nI (160 * j9))), (4, .int (nI (vty v8))), (0, .ref (mm 0)), (1, .int (nI j)), (2, .int (nI j9)), (3, .int 1)]) hx hb d_M_part_38 hl (by decide) rfl (fun ls hl => ?_)
                refine lv_iload hx hb d_M_part_40 (lv_at hl 0 rfl) ?_
                refine lv_aload_n hx hb d_M_part_42 rfl (lv_at hl 2 rfl) ?_
                refine va_get (D := D) (ci := 10) (v := .ref (mm 6)) (C := "ValueTreesModel") (T := T_M) (N := 12) hx hb ht in_M hown hK.1 hM.1 0 rfl rfl 6 (by decide) (ht _ q545) (fun _ h9 => h9) rfl d_M_part_43 ?_
                refine lv_iload_n hx hb d_M_part_46 rfl (lv_at hl 4 rfl) ?_
                refine z_iald hx hb hK (hM.1 6 _ rfl) j9 rfl (by omega) (by decide) d_M_part_47 ?_
                rw [es8]
                refine lv_iadd hx hb d_M_part_48 ?_
                rw [show (((nI (160 * j9)) + (nI (cs v8).length)) : Int32) = nI ((160 * j9) + ((cs v8).length)) from nI_add (160 * j9) ((cs v8).length)]
                refine lv_istore (lv' := [(6, .int (nI ((160 * j9) + ((cs v8).length)))), (5, .int (nI (160 * j9))), (4, .int (nI (vty v8))), (0, .ref (mm 0)), (1, .int (nI j)), (2, .int (nI j9)), (3, .int 1)]) hx hb d_M_part_49 hl (by decide) rfl (fun ls hl => ?_)
                refine lv_aload_n hx hb d_M_part_51 rfl (lv_at hl 3 rfl) ?_
                refine va_get (D := D) (ci := 10) (v := .ref (mm 1)) (C := "ValueTreesModel") (T := T_M) (N := 12) hx hb ht in_M hown hK.1 hM.1 0 rfl rfl 0 (by decide) (ht _ q539) (fun _ h9 => h9) rfl d_M_part_52 ?_
                refine lv_iload hx hb d_M_part_55 (lv_at hl 2 rfl) ?_
                refine z_iald hx hb hK (hM.1 1 _ rfl) (vty v8) rfl (by omega) (by decide) d_M_part_57 ?_
                rw [(hT _ ht8).1]
                refine lv_tableOut (tgt := 343) hx hb d_M_part_58 (by rw [show ((nI (tW (tb (vty v8)))) : Int32) = 5 from (by rw [hword]; rfl)]; decide) (by decide) ?_
                refine lv_iconst (v := (-1)) hx hb d_M_part_343 (by decide) ?_
                refine z_iretQ hx hb hr hlocks d_M_part_344 hS (Nat.le_refl _) (Nat.le_refl _) ?_
                have eo : o_part RV (nI j9) 1 = none := by unfold o_part; rw [rgs_nI hj9, hV8, ec9]; try rfl
                rw [eo]
                exact ⟨rfl, _, _, _, _, _, _, _, _, _, _, _, hM, hO, hT, hR, hWk⟩
              · have hlv : (cs v8).length = (cs v8).length := rfl
                refine lv_aload_n hx hb d_M_part_26 rfl (lv_at hl 0 rfl) ?_
                refine va_get (D := D) (ci := 10) (v := .ref (mm 4)) (C := "ValueTreesModel") (T := T_M) (N := 12) hx hb ht in_M hown hK.1 hM.1 0 rfl rfl 4 (by decide) (ht _ q543) (fun _ h9 => h9) rfl d_M_part_27 ?_
                refine lv_iload_n hx hb d_M_part_30 rfl (lv_at hl 2 rfl) ?_
                refine z_iald hx hb hK (hM.1 4 _ rfl) j9 rfl (by omega) (by decide) d_M_part_31 ?_
                rw [et8]
                refine lv_istore (lv' := [(4, .int (nI (vty v8))), (0, .ref (mm 0)), (1, .int (nI j)), (2, .int (nI j9)), (3, .int 1)]) hx hb d_M_part_32 hl (by decide) rfl (fun ls hl => ?_)
                refine lv_iload_n hx hb d_M_part_34 rfl (lv_at hl 3 rfl) ?_
                refine z_callR (va_runS (As := [.int (nI j9)]) (rest := []) ⟨hx, hb, hml, hown, hts⟩ (c_M_base l D dT _ (nI j9)) ⟨callB_of 1 hts (gI gd_up gd_c q650) rfl rfl rfl (ht _ q10) (ht _ q648) hd_M_base ⟨Nat.le_of_ble_eq_true rfl, Nat.le_of_ble_eq_true rfl⟩, ht _ q649⟩ (z_preS hK) rfl rfl hl.1 rfl (lv_room (Nat.le_of_ble_eq_true rfl)) d_M_part_35 ⟨Nat.zero_le _, Nat.zero_le _⟩) (fun v107 hv106 => ?_)
                subst hv106
                rw [show (160 * nI j9 : Int32) = nI (160 * j9) from pk_mul 160 j9]
                refine lv_istore (lv' := [(5, .int (nI (160 * j9))), (4, .int (nI (vty v8))), (0, .ref (mm 0)), (1, .int (nI j)), (2, .int (nI j9)), (3, .int 1)]) hx hb d_M_part_38 hl (by decide) rfl (fun ls hl => ?_)
                refine lv_iload hx hb d_M_part_40 (lv_at hl 0 rfl) ?_
                refine lv_aload_n hx hb d_M_part_42 rfl (lv_at hl 2 rfl) ?_
                refine va_get (D := D) (ci := 10) (v := .ref (mm 6)) (C := "ValueTreesModel") (T := T_M) (N := 12) hx hb ht in_M hown hK.1 hM.1 0 rfl rfl 6 (by decide) (ht _ q545) (fun _ h9 => h9) rfl d_M_part_43 ?_
                refine lv_iload_n hx hb d_M_part_46 rfl (lv_at hl 4 rfl) ?_
                refine z_iald hx hb hK (hM.1 6 _ rfl) j9 rfl (by omega) (by decide) d_M_part_47 ?_
                rw [es8]
                refine lv_iadd hx hb d_M_part_48 ?_
                rw [show (((nI (160 * j9)) + (nI (cs v8).length)) : Int32) = nI ((160 * j9) + ((cs v8).length)) from nI_add (160 * j9) ((cs v8).length)]
                refine lv_istore (lv' := [(6, .int (nI ((160 * j9) + ((cs v8).length)))), (5, .int (nI (160 * j9))), (4, .int (nI (vty v8))), (0, .ref (mm 0)), (1, .int (nI j)), (2, .int (nI j9)), (3, .int 1)]) hx hb d_M_part_49 hl (by decide) rfl (fun ls hl => ?_)
                refine lv_aload_n hx hb d_M_part_51 rfl (lv_at hl 3 rfl) ?_
                refine va_get (D := D) (ci := 10) (v := .ref (mm 1)) (C := "ValueTreesModel") (T := T_M) (N := 12) hx hb ht in_M hown hK.1 hM.1 0 rfl rfl 0 (by decide) (ht _ q539) (fun _ h9 => h9) rfl d_M_part_52 ?_
                refine lv_iload hx hb d_M_part_55 (lv_at hl 2 rfl) ?_
                refine z_iald hx hb hK (hM.1 1 _ rfl) (vty v8) rfl (by omega) (by decide) d_M_part_57 ?_
                rw [(hT _ ht8).1]
                refine lv_tableOut (tgt := 343) hx hb d_M_part_58 (by rw [show ((nI (tW (tb (vty v8)))) : Int32) = 6 from (by rw [hword]; rfl)]; decide) (by decide) ?_
                refine lv_iconst (v := (-1)) hx hb d_M_part_343 (by decide) ?_
                refine z_iretQ hx hb hr hlocks d_M_part_344 hS (Nat.le_refl _) (Nat.le_refl _) ?_
                have eo : o_part RV (nI j9) 1 = none := by unfold o_part; rw [rgs_nI hj9, hV8, ec9]; try rfl
                rw [eo]
                exact ⟨rfl, _, _, _, _, _, _, _, _, _, _, _, hM, hO, hT, hR, hWk⟩
            | intCast k =>
              have hword : tW (tb (vty v8)) = 11 := by simp only [wty] at hc9; omega
              have hl5 : (cs v8).length = 5 := by rw [ec9, l_nil]
              have hlv : (cs v8).length = (cs v8).length := rfl
              obtain ⟨hLk, hltk, hlpk⟩ := tl_some hO ht8 (by omega)
              have elk : lf (vty v8) = nI (lt_ tb (vty v8)) := by rw [(hT _ ht8).2.1, hLk]; rfl
              refine lv_aload_n hx hb d_M_part_26 rfl (lv_at hl 0 rfl) ?_
              refine va_get (D := D) (ci := 10) (v := .ref (mm 4)) (C := "ValueTreesModel") (T := T_M) (N := 12) hx hb ht in_M hown hK.1 hM.1 0 rfl rfl 4 (by decide) (ht _ q543) (fun _ h9 => h9) rfl d_M_part_27 ?_
              refine lv_iload_n hx hb d_M_part_30 rfl (lv_at hl 2 rfl) ?_
              refine z_iald hx hb hK (hM.1 4 _ rfl) j9 rfl (by omega) (by decide) d_M_part_31 ?_
              rw [et8]
              refine lv_istore (lv' := [(4, .int (nI (vty v8))), (0, .ref (mm 0)), (1, .int (nI j)), (2, .int (nI j9)), (3, .int 1)]) hx hb d_M_part_32 hl (by decide) rfl (fun ls hl => ?_)
              refine lv_iload_n hx hb d_M_part_34 rfl (lv_at hl 3 rfl) ?_
              refine z_callR (va_runS (As := [.int (nI j9)]) (rest := []) ⟨hx, hb, hml, hown, hts⟩ (c_M_base l D dT _ (nI j9)) ⟨callB_of 1 hts (gI gd_up gd_c q650) rfl rfl rfl (ht _ q10) (ht _ q648) hd_M_base ⟨Nat.le_of_ble_eq_true rfl, Nat.le_of_ble_eq_true rfl⟩, ht _ q649⟩ (z_preS hK) rfl rfl hl.1 rfl (lv_room (Nat.le_of_ble_eq_true rfl)) d_M_part_35 ⟨Nat.zero_le _, Nat.zero_le _⟩) (fun v109 hv108 => ?_)
              subst hv108
              rw [show (160 * nI j9 : Int32) = nI (160 * j9) from pk_mul 160 j9]
              refine lv_istore (lv' := [(5, .int (nI (160 * j9))), (4, .int (nI (vty v8))), (0, .ref (mm 0)), (1, .int (nI j)), (2, .int (nI j9)), (3, .int 1)]) hx hb d_M_part_38 hl (by decide) rfl (fun ls hl => ?_)
              refine lv_iload hx hb d_M_part_40 (lv_at hl 0 rfl) ?_
              refine lv_aload_n hx hb d_M_part_42 rfl (lv_at hl 2 rfl) ?_
              refine va_get (D := D) (ci := 10) (v := .ref (mm 6)) (C := "ValueTreesModel") (T := T_M) (N := 12) hx hb ht in_M hown hK.1 hM.1 0 rfl rfl 6 (by decide) (ht _ q545) (fun _ h9 => h9) rfl d_M_part_43 ?_
              refine lv_iload_n hx hb d_M_part_46 rfl (lv_at hl 4 rfl) ?_
              refine z_iald hx hb hK (hM.1 6 _ rfl) j9 rfl (by omega) (by decide) d_M_part_47 ?_
              rw [(show sz j9 = nI 5 from by rw [es8, hl5])]
              refine lv_iadd hx hb d_M_part_48 ?_
              rw [show (((nI (160 * j9)) + (nI 5)) : Int32) = nI ((160 * j9) + 5) from nI_add (160 * j9) 5]
              refine lv_istore (lv' := [(6, .int (nI ((160 * j9) + 5))), (5, .int (nI (160 * j9))), (4, .int (nI (vty v8))), (0, .ref (mm 0)), (1, .int (nI j)), (2, .int (nI j9)), (3, .int 1)]) hx hb d_M_part_49 hl (by decide) rfl (fun ls hl => ?_)
              refine lv_aload_n hx hb d_M_part_51 rfl (lv_at hl 3 rfl) ?_
              refine va_get (D := D) (ci := 10) (v := .ref (mm 1)) (C := "ValueTreesModel") (T := T_M) (N := 12) hx hb ht in_M hown hK.1 hM.1 0 rfl rfl 0 (by decide) (ht _ q539) (fun _ h9 => h9) rfl d_M_part_52 ?_
              refine lv_iload hx hb d_M_part_55 (lv_at hl 2 rfl) ?_
              refine z_iald hx hb hK (hM.1 1 _ rfl) (vty v8) rfl (by omega) (by decide) d_M_part_57 ?_
              rw [(hT _ ht8).1]
              refine lv_tableIn (tgt := 256) hx hb d_M_part_58 (by rw [show ((nI (tW (tb (vty v8)))) : Int32) = 11 from (by rw [hword]; rfl)]; decide) (by rw [show ((nI (tW (tb (vty v8)))) : Int32) = 11 from (by rw [hword]; rfl)]; decide) (by rw [show ((nI (tW (tb (vty v8)))) : Int32) = 11 from (by rw [hword]; rfl)]; rfl) (by decide) ?_
              refine lv_aload_n hx hb d_M_part_256 rfl (lv_at hl 3 rfl) ?_
              refine va_get (D := D) (ci := 10) (v := .ref (mm 6)) (C := "ValueTreesModel") (T := T_M) (N := 12) hx hb ht in_M hown hK.1 hM.1 0 rfl rfl 6 (by decide) (ht _ q545) (fun _ h9 => h9) rfl d_M_part_257 ?_
              refine lv_iload_n hx hb d_M_part_260 rfl (lv_at hl 5 rfl) ?_
              refine z_iald hx hb hK (hM.1 6 _ rfl) j9 rfl (by omega) (by decide) d_M_part_261 ?_
              rw [(show sz j9 = nI 5 from by rw [es8, hl5])]
              refine lv_iconst (v := 5) hx hb d_M_part_262 (by decide) ?_
              refine lv_icmp_ne (tgt := 268) hx hb d_M_part_263 (by decide) (fun c110 => absurd ((nI_eq (a := 5) (b := 5) (by omega) (by omega)).mpr (by omega)) c110) (fun c110 => ?_)
              refine lv_iconst (v := (-1)) hx hb d_M_part_266 (by decide) ?_
              refine z_iretQ hx hb hr hlocks d_M_part_267 hS (Nat.le_refl _) (Nat.le_refl _) ?_
              have eo : o_part RV (nI j9) 1 = none := by unfold o_part; rw [rgs_nI hj9, hV8, ec9]; try rfl
              rw [eo]
              exact ⟨rfl, _, _, _, _, _, _, _, _, _, _, _, hM, hO, hT, hR, hWk⟩
            | var i =>
              rw [f_var] at hfz
              rcases hc9.2 with ⟨hword, hi9⟩ | ⟨hword, hi9⟩ | ⟨hword, hi9⟩
              · subst hi9
                have hlv : (cs v8).length = (cs v8).length := rfl
                refine lv_aload_n hx hb d_M_part_26 rfl (lv_at hl 0 rfl) ?_
                refine va_get (D := D) (ci := 10) (v := .ref (mm 4)) (C := "ValueTreesModel") (T := T_M) (N := 12) hx hb ht in_M hown hK.1 hM.1 0 rfl rfl 4 (by decide) (ht _ q543) (fun _ h9 => h9) rfl d_M_part_27 ?_
                refine lv_iload_n hx hb d_M_part_30 rfl (lv_at hl 2 rfl) ?_
                refine z_iald hx hb hK (hM.1 4 _ rfl) j9 rfl (by omega) (by decide) d_M_part_31 ?_
                rw [et8]
                refine lv_istore (lv' := [(4, .int (nI (vty v8))), (0, .ref (mm 0)), (1, .int (nI j)), (2, .int (nI j9)), (3, .int 1)]) hx hb d_M_part_32 hl (by decide) rfl (fun ls hl => ?_)
                refine lv_iload_n hx hb d_M_part_34 rfl (lv_at hl 3 rfl) ?_
                refine z_callR (va_runS (As := [.int (nI j9)]) (rest := []) ⟨hx, hb, hml, hown, hts⟩ (c_M_base l D dT _ (nI j9)) ⟨callB_of 1 hts (gI gd_up gd_c q650) rfl rfl rfl (ht _ q10) (ht _ q648) hd_M_base ⟨Nat.le_of_ble_eq_true rfl, Nat.le_of_ble_eq_true rfl⟩, ht _ q649⟩ (z_preS hK) rfl rfl hl.1 rfl (lv_room (Nat.le_of_ble_eq_true rfl)) d_M_part_35 ⟨Nat.zero_le _, Nat.zero_le _⟩) (fun v112 hv111 => ?_)
                subst hv111
                rw [show (160 * nI j9 : Int32) = nI (160 * j9) from pk_mul 160 j9]
                refine lv_istore (lv' := [(5, .int (nI (160 * j9))), (4, .int (nI (vty v8))), (0, .ref (mm 0)), (1, .int (nI j)), (2, .int (nI j9)), (3, .int 1)]) hx hb d_M_part_38 hl (by decide) rfl (fun ls hl => ?_)
                refine lv_iload hx hb d_M_part_40 (lv_at hl 0 rfl) ?_
                refine lv_aload_n hx hb d_M_part_42 rfl (lv_at hl 2 rfl) ?_
                refine va_get (D := D) (ci := 10) (v := .ref (mm 6)) (C := "ValueTreesModel") (T := T_M) (N := 12) hx hb ht in_M hown hK.1 hM.1 0 rfl rfl 6 (by decide) (ht _ q545) (fun _ h9 => h9) rfl d_M_part_43 ?_
                refine lv_iload_n hx hb d_M_part_46 rfl (lv_at hl 4 rfl) ?_
                refine z_iald hx hb hK (hM.1 6 _ rfl) j9 rfl (by omega) (by decide) d_M_part_47 ?_
                rw [es8]
                refine lv_iadd hx hb d_M_part_48 ?_
                rw [show (((nI (160 * j9)) + (nI (cs v8).length)) : Int32) = nI ((160 * j9) + ((cs v8).length)) from nI_add (160 * j9) ((cs v8).length)]
                refine lv_istore (lv' := [(6, .int (nI ((160 * j9) + ((cs v8).length)))), (5, .int (nI (160 * j9))), (4, .int (nI (vty v8))), (0, .ref (mm 0)), (1, .int (nI j)), (2, .int (nI j9)), (3, .int 1)]) hx hb d_M_part_49 hl (by decide) rfl (fun ls hl => ?_)
                refine lv_aload_n hx hb d_M_part_51 rfl (lv_at hl 3 rfl) ?_
                refine va_get (D := D) (ci := 10) (v := .ref (mm 1)) (C := "ValueTreesModel") (T := T_M) (N := 12) hx hb ht in_M hown hK.1 hM.1 0 rfl rfl 0 (by decide) (ht _ q539) (fun _ h9 => h9) rfl d_M_part_52 ?_
                refine lv_iload hx hb d_M_part_55 (lv_at hl 2 rfl) ?_
                refine z_iald hx hb hK (hM.1 1 _ rfl) (vty v8) rfl (by omega) (by decide) d_M_part_57 ?_
                rw [(hT _ ht8).1]
                refine lv_tableOut (tgt := 343) hx hb d_M_part_58 (by rw [show ((nI (tW (tb (vty v8)))) : Int32) = 0 from (by rw [hword]; rfl)]; decide) (by decide) ?_
                refine lv_iconst (v := (-1)) hx hb d_M_part_343 (by decide) ?_
                refine z_iretQ hx hb hr hlocks d_M_part_344 hS (Nat.le_refl _) (Nat.le_refl _) ?_
                have eo : o_part RV (nI j9) 1 = none := by unfold o_part; rw [rgs_nI hj9, hV8, ec9]; try rfl
                rw [eo]
                exact ⟨rfl, _, _, _, _, _, _, _, _, _, _, _, hM, hO, hT, hR, hWk⟩
              · have ht1 : (vty v8) = 1 := (is_word hO ht8 (by omega)).trans hword
                rcases hi9 with rfl | rfl
                · have hf1 : F (160 * j9 + 1) = 3 := by rw [hfz.2, ht1]; rfl
                  have hlv : (cs v8).length = (cs v8).length := rfl
                  refine lv_aload_n hx hb d_M_part_26 rfl (lv_at hl 0 rfl) ?_
                  refine va_get (D := D) (ci := 10) (v := .ref (mm 4)) (C := "ValueTreesModel") (T := T_M) (N := 12) hx hb ht in_M hown hK.1 hM.1 0 rfl rfl 4 (by decide) (ht _ q543) (fun _ h9 => h9) rfl d_M_part_27 ?_
                  refine lv_iload_n hx hb d_M_part_30 rfl (lv_at hl 2 rfl) ?_
                  refine z_iald hx hb hK (hM.1 4 _ rfl) j9 rfl (by omega) (by decide) d_M_part_31 ?_
                  rw [et8]
                  refine lv_istore (lv' := [(4, .int (nI (vty v8))), (0, .ref (mm 0)), (1, .int (nI j)), (2, .int (nI j9)), (3, .int 1)]) hx hb d_M_part_32 hl (by decide) rfl (fun ls hl => ?_)
                  refine lv_iload_n hx hb d_M_part_34 rfl (lv_at hl 3 rfl) ?_
                  refine z_callR (va_runS (As := [.int (nI j9)]) (rest := []) ⟨hx, hb, hml, hown, hts⟩ (c_M_base l D dT _ (nI j9)) ⟨callB_of 1 hts (gI gd_up gd_c q650) rfl rfl rfl (ht _ q10) (ht _ q648) hd_M_base ⟨Nat.le_of_ble_eq_true rfl, Nat.le_of_ble_eq_true rfl⟩, ht _ q649⟩ (z_preS hK) rfl rfl hl.1 rfl (lv_room (Nat.le_of_ble_eq_true rfl)) d_M_part_35 ⟨Nat.zero_le _, Nat.zero_le _⟩) (fun v114 hv113 => ?_)
                  subst hv113
                  rw [show (160 * nI j9 : Int32) = nI (160 * j9) from pk_mul 160 j9]
                  refine lv_istore (lv' := [(5, .int (nI (160 * j9))), (4, .int (nI (vty v8))), (0, .ref (mm 0)), (1, .int (nI j)), (2, .int (nI j9)), (3, .int 1)]) hx hb d_M_part_38 hl (by decide) rfl (fun ls hl => ?_)
                  refine lv_iload hx hb d_M_part_40 (lv_at hl 0 rfl) ?_
                  refine lv_aload_n hx hb d_M_part_42 rfl (lv_at hl 2 rfl) ?_
                  refine va_get (D := D) (ci := 10) (v := .ref (mm 6)) (C := "ValueTreesModel") (T := T_M) (N := 12) hx hb ht in_M hown hK.1 hM.1 0 rfl rfl 6 (by decide) (ht _ q545) (fun _ h9 => h9) rfl d_M_part_43 ?_
                  refine lv_iload_n hx hb d_M_part_46 rfl (lv_at hl 4 rfl) ?_
                  refine z_iald hx hb hK (hM.1 6 _ rfl) j9 rfl (by omega) (by decide) d_M_part_47 ?_
                  rw [es8]
                  refine lv_iadd hx hb d_M_part_48 ?_
                  rw [show (((nI (160 * j9)) + (nI (cs v8).length)) : Int32) = nI ((160 * j9) + ((cs v8).length)) from nI_add (160 * j9) ((cs v8).length)]
                  refine lv_istore (lv' := [(6, .int (nI ((160 * j9) + ((cs v8).length)))), (5, .int (nI (160 * j9))), (4, .int (nI (vty v8))), (0, .ref (mm 0)), (1, .int (nI j)), (2, .int (nI j9)), (3, .int 1)]) hx hb d_M_part_49 hl (by decide) rfl (fun ls hl => ?_)
                  refine lv_aload_n hx hb d_M_part_51 rfl (lv_at hl 3 rfl) ?_
                  refine va_get (D := D) (ci := 10) (v := .ref (mm 1)) (C := "ValueTreesModel") (T := T_M) (N := 12) hx hb ht in_M hown hK.1 hM.1 0 rfl rfl 0 (by decide) (ht _ q539) (fun _ h9 => h9) rfl d_M_part_52 ?_
                  refine lv_iload hx hb d_M_part_55 (lv_at hl 2 rfl) ?_
                  refine z_iald hx hb hK (hM.1 1 _ rfl) (vty v8) rfl (by omega) (by decide) d_M_part_57 ?_
                  rw [(hT _ ht8).1]
                  refine lv_tableOut (tgt := 343) hx hb d_M_part_58 (by rw [show ((nI (tW (tb (vty v8)))) : Int32) = 1 from (by rw [hword]; rfl)]; decide) (by decide) ?_
                  refine lv_iconst (v := (-1)) hx hb d_M_part_343 (by decide) ?_
                  refine z_iretQ hx hb hr hlocks d_M_part_344 hS (Nat.le_refl _) (Nat.le_refl _) ?_
                  have eo : o_part RV (nI j9) 1 = none := by unfold o_part; rw [rgs_nI hj9, hV8, ec9]; try rfl
                  rw [eo]
                  exact ⟨rfl, _, _, _, _, _, _, _, _, _, _, _, hM, hO, hT, hR, hWk⟩
                · have hf1 : F (160 * j9 + 1) = 10 := by rw [hfz.2, ht1]; rfl
                  have hlv : (cs v8).length = (cs v8).length := rfl
                  refine lv_aload_n hx hb d_M_part_26 rfl (lv_at hl 0 rfl) ?_
                  refine va_get (D := D) (ci := 10) (v := .ref (mm 4)) (C := "ValueTreesModel") (T := T_M) (N := 12) hx hb ht in_M hown hK.1 hM.1 0 rfl rfl 4 (by decide) (ht _ q543) (fun _ h9 => h9) rfl d_M_part_27 ?_
                  refine lv_iload_n hx hb d_M_part_30 rfl (lv_at hl 2 rfl) ?_
                  refine z_iald hx hb hK (hM.1 4 _ rfl) j9 rfl (by omega) (by decide) d_M_part_31 ?_
                  rw [et8]
                  refine lv_istore (lv' := [(4, .int (nI (vty v8))), (0, .ref (mm 0)), (1, .int (nI j)), (2, .int (nI j9)), (3, .int 1)]) hx hb d_M_part_32 hl (by decide) rfl (fun ls hl => ?_)
                  refine lv_iload_n hx hb d_M_part_34 rfl (lv_at hl 3 rfl) ?_
                  refine z_callR (va_runS (As := [.int (nI j9)]) (rest := []) ⟨hx, hb, hml, hown, hts⟩ (c_M_base l D dT _ (nI j9)) ⟨callB_of 1 hts (gI gd_up gd_c q650) rfl rfl rfl (ht _ q10) (ht _ q648) hd_M_base ⟨Nat.le_of_ble_eq_true rfl, Nat.le_of_ble_eq_true rfl⟩, ht _ q649⟩ (z_preS hK) rfl rfl hl.1 rfl (lv_room (Nat.le_of_ble_eq_true rfl)) d_M_part_35 ⟨Nat.zero_le _, Nat.zero_le _⟩) (fun v116 hv115 => ?_)
                  subst hv115
                  rw [show (160 * nI j9 : Int32) = nI (160 * j9) from pk_mul 160 j9]
                  refine lv_istore (lv' := [(5, .int (nI (160 * j9))), (4, .int (nI (vty v8))), (0, .ref (mm 0)), (1, .int (nI j)), (2, .int (nI j9)), (3, .int 1)]) hx hb d_M_part_38 hl (by decide) rfl (fun ls hl => ?_)
                  refine lv_iload hx hb d_M_part_40 (lv_at hl 0 rfl) ?_
                  refine lv_aload_n hx hb d_M_part_42 rfl (lv_at hl 2 rfl) ?_
                  refine va_get (D := D) (ci := 10) (v := .ref (mm 6)) (C := "ValueTreesModel") (T := T_M) (N := 12) hx hb ht in_M hown hK.1 hM.1 0 rfl rfl 6 (by decide) (ht _ q545) (fun _ h9 => h9) rfl d_M_part_43 ?_
                  refine lv_iload_n hx hb d_M_part_46 rfl (lv_at hl 4 rfl) ?_
                  refine z_iald hx hb hK (hM.1 6 _ rfl) j9 rfl (by omega) (by decide) d_M_part_47 ?_
                  rw [es8]
                  refine lv_iadd hx hb d_M_part_48 ?_
                  rw [show (((nI (160 * j9)) + (nI (cs v8).length)) : Int32) = nI ((160 * j9) + ((cs v8).length)) from nI_add (160 * j9) ((cs v8).length)]
                  refine lv_istore (lv' := [(6, .int (nI ((160 * j9) + ((cs v8).length)))), (5, .int (nI (160 * j9))), (4, .int (nI (vty v8))), (0, .ref (mm 0)), (1, .int (nI j)), (2, .int (nI j9)), (3, .int 1)]) hx hb d_M_part_49 hl (by decide) rfl (fun ls hl => ?_)
                  refine lv_aload_n hx hb d_M_part_51 rfl (lv_at hl 3 rfl) ?_
                  refine va_get (D := D) (ci := 10) (v := .ref (mm 1)) (C := "ValueTreesModel") (T := T_M) (N := 12) hx hb ht in_M hown hK.1 hM.1 0 rfl rfl 0 (by decide) (ht _ q539) (fun _ h9 => h9) rfl d_M_part_52 ?_
                  refine lv_iload hx hb d_M_part_55 (lv_at hl 2 rfl) ?_
                  refine z_iald hx hb hK (hM.1 1 _ rfl) (vty v8) rfl (by omega) (by decide) d_M_part_57 ?_
                  rw [(hT _ ht8).1]
                  refine lv_tableOut (tgt := 343) hx hb d_M_part_58 (by rw [show ((nI (tW (tb (vty v8)))) : Int32) = 1 from (by rw [hword]; rfl)]; decide) (by decide) ?_
                  refine lv_iconst (v := (-1)) hx hb d_M_part_343 (by decide) ?_
                  refine z_iretQ hx hb hr hlocks d_M_part_344 hS (Nat.le_refl _) (Nat.le_refl _) ?_
                  have eo : o_part RV (nI j9) 1 = none := by unfold o_part; rw [rgs_nI hj9, hV8, ec9]; try rfl
                  rw [eo]
                  exact ⟨rfl, _, _, _, _, _, _, _, _, _, _, _, hM, hO, hT, hR, hWk⟩
              · subst hi9
                have ht1 := not_one hO ht8 (by omega)
                have hf1 : F (160 * j9 + 1) = 6 := by rw [hfz.2]; simp [vtag, ht1]
                have hlv : (cs v8).length = (cs v8).length := rfl
                obtain ⟨hLk, hltk, hlpk⟩ := tl_some hO ht8 (by omega)
                have elk : lf (vty v8) = nI (lt_ tb (vty v8)) := by rw [(hT _ ht8).2.1, hLk]; rfl
                refine lv_aload_n hx hb d_M_part_26 rfl (lv_at hl 0 rfl) ?_
                refine va_get (D := D) (ci := 10) (v := .ref (mm 4)) (C := "ValueTreesModel") (T := T_M) (N := 12) hx hb ht in_M hown hK.1 hM.1 0 rfl rfl 4 (by decide) (ht _ q543) (fun _ h9 => h9) rfl d_M_part_27 ?_
                refine lv_iload_n hx hb d_M_part_30 rfl (lv_at hl 2 rfl) ?_
                refine z_iald hx hb hK (hM.1 4 _ rfl) j9 rfl (by omega) (by decide) d_M_part_31 ?_
                rw [et8]
                refine lv_istore (lv' := [(4, .int (nI (vty v8))), (0, .ref (mm 0)), (1, .int (nI j)), (2, .int (nI j9)), (3, .int 1)]) hx hb d_M_part_32 hl (by decide) rfl (fun ls hl => ?_)
                refine lv_iload_n hx hb d_M_part_34 rfl (lv_at hl 3 rfl) ?_
                refine z_callR (va_runS (As := [.int (nI j9)]) (rest := []) ⟨hx, hb, hml, hown, hts⟩ (c_M_base l D dT _ (nI j9)) ⟨callB_of 1 hts (gI gd_up gd_c q650) rfl rfl rfl (ht _ q10) (ht _ q648) hd_M_base ⟨Nat.le_of_ble_eq_true rfl, Nat.le_of_ble_eq_true rfl⟩, ht _ q649⟩ (z_preS hK) rfl rfl hl.1 rfl (lv_room (Nat.le_of_ble_eq_true rfl)) d_M_part_35 ⟨Nat.zero_le _, Nat.zero_le _⟩) (fun v118 hv117 => ?_)
                subst hv117
                rw [show (160 * nI j9 : Int32) = nI (160 * j9) from pk_mul 160 j9]
                refine lv_istore (lv' := [(5, .int (nI (160 * j9))), (4, .int (nI (vty v8))), (0, .ref (mm 0)), (1, .int (nI j)), (2, .int (nI j9)), (3, .int 1)]) hx hb d_M_part_38 hl (by decide) rfl (fun ls hl => ?_)
                refine lv_iload hx hb d_M_part_40 (lv_at hl 0 rfl) ?_
                refine lv_aload_n hx hb d_M_part_42 rfl (lv_at hl 2 rfl) ?_
                refine va_get (D := D) (ci := 10) (v := .ref (mm 6)) (C := "ValueTreesModel") (T := T_M) (N := 12) hx hb ht in_M hown hK.1 hM.1 0 rfl rfl 6 (by decide) (ht _ q545) (fun _ h9 => h9) rfl d_M_part_43 ?_
                refine lv_iload_n hx hb d_M_part_46 rfl (lv_at hl 4 rfl) ?_
                refine z_iald hx hb hK (hM.1 6 _ rfl) j9 rfl (by omega) (by decide) d_M_part_47 ?_
                rw [es8]
                refine lv_iadd hx hb d_M_part_48 ?_
                rw [show (((nI (160 * j9)) + (nI (cs v8).length)) : Int32) = nI ((160 * j9) + ((cs v8).length)) from nI_add (160 * j9) ((cs v8).length)]
                refine lv_istore (lv' := [(6, .int (nI ((160 * j9) + ((cs v8).length)))), (5, .int (nI (160 * j9))), (4, .int (nI (vty v8))), (0, .ref (mm 0)), (1, .int (nI j)), (2, .int (nI j9)), (3, .int 1)]) hx hb d_M_part_49 hl (by decide) rfl (fun ls hl => ?_)
                refine lv_aload_n hx hb d_M_part_51 rfl (lv_at hl 3 rfl) ?_
                refine va_get (D := D) (ci := 10) (v := .ref (mm 1)) (C := "ValueTreesModel") (T := T_M) (N := 12) hx hb ht in_M hown hK.1 hM.1 0 rfl rfl 0 (by decide) (ht _ q539) (fun _ h9 => h9) rfl d_M_part_52 ?_
                refine lv_iload hx hb d_M_part_55 (lv_at hl 2 rfl) ?_
                refine z_iald hx hb hK (hM.1 1 _ rfl) (vty v8) rfl (by omega) (by decide) d_M_part_57 ?_
                rw [(hT _ ht8).1]
                refine lv_tableIn (tgt := 108) hx hb d_M_part_58 (by rw [show ((nI (tW (tb (vty v8)))) : Int32) = 10 from (by rw [hword]; rfl)]; decide) (by rw [show ((nI (tW (tb (vty v8)))) : Int32) = 10 from (by rw [hword]; rfl)]; decide) (by rw [show ((nI (tW (tb (vty v8)))) : Int32) = 10 from (by rw [hword]; rfl)]; rfl) (by decide) ?_
                refine lv_iload_n hx hb d_M_part_108 rfl (lv_at hl 6 rfl) ?_
                refine lv_if_gt (tgt := 125) hx hb d_M_part_109 (by decide) (fun _ => ?_) (fun c119 => absurd c119 (by decide))
                refine lv_iconst (v := (-1)) hx hb d_M_part_125 (by decide) ?_
                refine lv_goto (tgt := 147) hx hb d_M_part_126 (by decide) ?_
                refine z_iretQ hx hb hr hlocks d_M_part_147 hS (Nat.le_refl _) (Nat.le_refl _) ?_
                have eo : o_part RV (nI j9) 1 = none := by unfold o_part; rw [rgs_nI hj9, hV8, ec9]; try rfl
                rw [eo]
                exact ⟨rfl, _, _, _, _, _, _, _, _, _, _, _, hM, hO, hT, hR, hWk⟩
            | neg ch =>
              have hwd : tW (tb (vty v8)) = 12 ∨ tW (tb (vty v8)) = 15 ∨ tW (tb (vty v8)) = 16 := by simp only [wty] at hc9; omega
              obtain ⟨ch9, ech9, hch⟩ := tree_of hw8 hwd
              have ech9 := ec9.symm.trans ech9
              cases ech9
              rw [f_neg] at hfz
              rw [l_neg] at hlz
              rcases hwd with hword | hword | hword
              · have hlv : (cs v8).length = (cs v8).length := rfl
                refine lv_aload_n hx hb d_M_part_26 rfl (lv_at hl 0 rfl) ?_
                refine va_get (D := D) (ci := 10) (v := .ref (mm 4)) (C := "ValueTreesModel") (T := T_M) (N := 12) hx hb ht in_M hown hK.1 hM.1 0 rfl rfl 4 (by decide) (ht _ q543) (fun _ h9 => h9) rfl d_M_part_27 ?_
                refine lv_iload_n hx hb d_M_part_30 rfl (lv_at hl 2 rfl) ?_
                refine z_iald hx hb hK (hM.1 4 _ rfl) j9 rfl (by omega) (by decide) d_M_part_31 ?_
                rw [et8]
                refine lv_istore (lv' := [(4, .int (nI (vty v8))), (0, .ref (mm 0)), (1, .int (nI j)), (2, .int (nI j9)), (3, .int 1)]) hx hb d_M_part_32 hl (by decide) rfl (fun ls hl => ?_)
                refine lv_iload_n hx hb d_M_part_34 rfl (lv_at hl 3 rfl) ?_
                refine z_callR (va_runS (As := [.int (nI j9)]) (rest := []) ⟨hx, hb, hml, hown, hts⟩ (c_M_base l D dT _ (nI j9)) ⟨callB_of 1 hts (gI gd_up gd_c q650) rfl rfl rfl (ht _ q10) (ht _ q648) hd_M_base ⟨Nat.le_of_ble_eq_true rfl, Nat.le_of_ble_eq_true rfl⟩, ht _ q649⟩ (z_preS hK) rfl rfl hl.1 rfl (lv_room (Nat.le_of_ble_eq_true rfl)) d_M_part_35 ⟨Nat.zero_le _, Nat.zero_le _⟩) (fun v121 hv120 => ?_)
                subst hv120
                rw [show (160 * nI j9 : Int32) = nI (160 * j9) from pk_mul 160 j9]
                refine lv_istore (lv' := [(5, .int (nI (160 * j9))), (4, .int (nI (vty v8))), (0, .ref (mm 0)), (1, .int (nI j)), (2, .int (nI j9)), (3, .int 1)]) hx hb d_M_part_38 hl (by decide) rfl (fun ls hl => ?_)
                refine lv_iload hx hb d_M_part_40 (lv_at hl 0 rfl) ?_
                refine lv_aload_n hx hb d_M_part_42 rfl (lv_at hl 2 rfl) ?_
                refine va_get (D := D) (ci := 10) (v := .ref (mm 6)) (C := "ValueTreesModel") (T := T_M) (N := 12) hx hb ht in_M hown hK.1 hM.1 0 rfl rfl 6 (by decide) (ht _ q545) (fun _ h9 => h9) rfl d_M_part_43 ?_
                refine lv_iload_n hx hb d_M_part_46 rfl (lv_at hl 4 rfl) ?_
                refine z_iald hx hb hK (hM.1 6 _ rfl) j9 rfl (by omega) (by decide) d_M_part_47 ?_
                rw [es8]
                refine lv_iadd hx hb d_M_part_48 ?_
                rw [show (((nI (160 * j9)) + (nI (cs v8).length)) : Int32) = nI ((160 * j9) + ((cs v8).length)) from nI_add (160 * j9) ((cs v8).length)]
                refine lv_istore (lv' := [(6, .int (nI ((160 * j9) + ((cs v8).length)))), (5, .int (nI (160 * j9))), (4, .int (nI (vty v8))), (0, .ref (mm 0)), (1, .int (nI j)), (2, .int (nI j9)), (3, .int 1)]) hx hb d_M_part_49 hl (by decide) rfl (fun ls hl => ?_)
                refine lv_aload_n hx hb d_M_part_51 rfl (lv_at hl 3 rfl) ?_
                refine va_get (D := D) (ci := 10) (v := .ref (mm 1)) (C := "ValueTreesModel") (T := T_M) (N := 12) hx hb ht in_M hown hK.1 hM.1 0 rfl rfl 0 (by decide) (ht _ q539) (fun _ h9 => h9) rfl d_M_part_52 ?_
                refine lv_iload hx hb d_M_part_55 (lv_at hl 2 rfl) ?_
                refine z_iald hx hb hK (hM.1 1 _ rfl) (vty v8) rfl (by omega) (by decide) d_M_part_57 ?_
                rw [(hT _ ht8).1]
                refine lv_tableIn (tgt := 343) hx hb d_M_part_58 (by rw [show ((nI (tW (tb (vty v8)))) : Int32) = 12 from (by rw [hword]; rfl)]; decide) (by rw [show ((nI (tW (tb (vty v8)))) : Int32) = 12 from (by rw [hword]; rfl)]; decide) (by rw [show ((nI (tW (tb (vty v8)))) : Int32) = 12 from (by rw [hword]; rfl)]; rfl) (by decide) ?_
                refine lv_iconst (v := (-1)) hx hb d_M_part_343 (by decide) ?_
                refine z_iretQ hx hb hr hlocks d_M_part_344 hS (Nat.le_refl _) (Nat.le_refl _) ?_
                have eo : o_part RV (nI j9) 1 = none := by unfold o_part; rw [rgs_nI hj9, hV8, ec9]; try rfl
                rw [eo]
                exact ⟨rfl, _, _, _, _, _, _, _, _, _, _, _, hM, hO, hT, hR, hWk⟩
              · have hlv : (cs v8).length = (cs v8).length := rfl
                refine lv_aload_n hx hb d_M_part_26 rfl (lv_at hl 0 rfl) ?_
                refine va_get (D := D) (ci := 10) (v := .ref (mm 4)) (C := "ValueTreesModel") (T := T_M) (N := 12) hx hb ht in_M hown hK.1 hM.1 0 rfl rfl 4 (by decide) (ht _ q543) (fun _ h9 => h9) rfl d_M_part_27 ?_
                refine lv_iload_n hx hb d_M_part_30 rfl (lv_at hl 2 rfl) ?_
                refine z_iald hx hb hK (hM.1 4 _ rfl) j9 rfl (by omega) (by decide) d_M_part_31 ?_
                rw [et8]
                refine lv_istore (lv' := [(4, .int (nI (vty v8))), (0, .ref (mm 0)), (1, .int (nI j)), (2, .int (nI j9)), (3, .int 1)]) hx hb d_M_part_32 hl (by decide) rfl (fun ls hl => ?_)
                refine lv_iload_n hx hb d_M_part_34 rfl (lv_at hl 3 rfl) ?_
                refine z_callR (va_runS (As := [.int (nI j9)]) (rest := []) ⟨hx, hb, hml, hown, hts⟩ (c_M_base l D dT _ (nI j9)) ⟨callB_of 1 hts (gI gd_up gd_c q650) rfl rfl rfl (ht _ q10) (ht _ q648) hd_M_base ⟨Nat.le_of_ble_eq_true rfl, Nat.le_of_ble_eq_true rfl⟩, ht _ q649⟩ (z_preS hK) rfl rfl hl.1 rfl (lv_room (Nat.le_of_ble_eq_true rfl)) d_M_part_35 ⟨Nat.zero_le _, Nat.zero_le _⟩) (fun v123 hv122 => ?_)
                subst hv122
                rw [show (160 * nI j9 : Int32) = nI (160 * j9) from pk_mul 160 j9]
                refine lv_istore (lv' := [(5, .int (nI (160 * j9))), (4, .int (nI (vty v8))), (0, .ref (mm 0)), (1, .int (nI j)), (2, .int (nI j9)), (3, .int 1)]) hx hb d_M_part_38 hl (by decide) rfl (fun ls hl => ?_)
                refine lv_iload hx hb d_M_part_40 (lv_at hl 0 rfl) ?_
                refine lv_aload_n hx hb d_M_part_42 rfl (lv_at hl 2 rfl) ?_
                refine va_get (D := D) (ci := 10) (v := .ref (mm 6)) (C := "ValueTreesModel") (T := T_M) (N := 12) hx hb ht in_M hown hK.1 hM.1 0 rfl rfl 6 (by decide) (ht _ q545) (fun _ h9 => h9) rfl d_M_part_43 ?_
                refine lv_iload_n hx hb d_M_part_46 rfl (lv_at hl 4 rfl) ?_
                refine z_iald hx hb hK (hM.1 6 _ rfl) j9 rfl (by omega) (by decide) d_M_part_47 ?_
                rw [es8]
                refine lv_iadd hx hb d_M_part_48 ?_
                rw [show (((nI (160 * j9)) + (nI (cs v8).length)) : Int32) = nI ((160 * j9) + ((cs v8).length)) from nI_add (160 * j9) ((cs v8).length)]
                refine lv_istore (lv' := [(6, .int (nI ((160 * j9) + ((cs v8).length)))), (5, .int (nI (160 * j9))), (4, .int (nI (vty v8))), (0, .ref (mm 0)), (1, .int (nI j)), (2, .int (nI j9)), (3, .int 1)]) hx hb d_M_part_49 hl (by decide) rfl (fun ls hl => ?_)
                refine lv_aload_n hx hb d_M_part_51 rfl (lv_at hl 3 rfl) ?_
                refine va_get (D := D) (ci := 10) (v := .ref (mm 1)) (C := "ValueTreesModel") (T := T_M) (N := 12) hx hb ht in_M hown hK.1 hM.1 0 rfl rfl 0 (by decide) (ht _ q539) (fun _ h9 => h9) rfl d_M_part_52 ?_
                refine lv_iload hx hb d_M_part_55 (lv_at hl 2 rfl) ?_
                refine z_iald hx hb hK (hM.1 1 _ rfl) (vty v8) rfl (by omega) (by decide) d_M_part_57 ?_
                rw [(hT _ ht8).1]
                refine lv_tableIn (tgt := 343) hx hb d_M_part_58 (by rw [show ((nI (tW (tb (vty v8)))) : Int32) = 15 from (by rw [hword]; rfl)]; decide) (by rw [show ((nI (tW (tb (vty v8)))) : Int32) = 15 from (by rw [hword]; rfl)]; decide) (by rw [show ((nI (tW (tb (vty v8)))) : Int32) = 15 from (by rw [hword]; rfl)]; rfl) (by decide) ?_
                refine lv_iconst (v := (-1)) hx hb d_M_part_343 (by decide) ?_
                refine z_iretQ hx hb hr hlocks d_M_part_344 hS (Nat.le_refl _) (Nat.le_refl _) ?_
                have eo : o_part RV (nI j9) 1 = none := by unfold o_part; rw [rgs_nI hj9, hV8, ec9]; try rfl
                rw [eo]
                exact ⟨rfl, _, _, _, _, _, _, _, _, _, _, _, hM, hO, hT, hR, hWk⟩
              · have hlv : (cs v8).length = (cs v8).length := rfl
                refine lv_aload_n hx hb d_M_part_26 rfl (lv_at hl 0 rfl) ?_
                refine va_get (D := D) (ci := 10) (v := .ref (mm 4)) (C := "ValueTreesModel") (T := T_M) (N := 12) hx hb ht in_M hown hK.1 hM.1 0 rfl rfl 4 (by decide) (ht _ q543) (fun _ h9 => h9) rfl d_M_part_27 ?_
                refine lv_iload_n hx hb d_M_part_30 rfl (lv_at hl 2 rfl) ?_
                refine z_iald hx hb hK (hM.1 4 _ rfl) j9 rfl (by omega) (by decide) d_M_part_31 ?_
                rw [et8]
                refine lv_istore (lv' := [(4, .int (nI (vty v8))), (0, .ref (mm 0)), (1, .int (nI j)), (2, .int (nI j9)), (3, .int 1)]) hx hb d_M_part_32 hl (by decide) rfl (fun ls hl => ?_)
                refine lv_iload_n hx hb d_M_part_34 rfl (lv_at hl 3 rfl) ?_
                refine z_callR (va_runS (As := [.int (nI j9)]) (rest := []) ⟨hx, hb, hml, hown, hts⟩ (c_M_base l D dT _ (nI j9)) ⟨callB_of 1 hts (gI gd_up gd_c q650) rfl rfl rfl (ht _ q10) (ht _ q648) hd_M_base ⟨Nat.le_of_ble_eq_true rfl, Nat.le_of_ble_eq_true rfl⟩, ht _ q649⟩ (z_preS hK) rfl rfl hl.1 rfl (lv_room (Nat.le_of_ble_eq_true rfl)) d_M_part_35 ⟨Nat.zero_le _, Nat.zero_le _⟩) (fun v125 hv124 => ?_)
                subst hv124
                rw [show (160 * nI j9 : Int32) = nI (160 * j9) from pk_mul 160 j9]
                refine lv_istore (lv' := [(5, .int (nI (160 * j9))), (4, .int (nI (vty v8))), (0, .ref (mm 0)), (1, .int (nI j)), (2, .int (nI j9)), (3, .int 1)]) hx hb d_M_part_38 hl (by decide) rfl (fun ls hl => ?_)
                refine lv_iload hx hb d_M_part_40 (lv_at hl 0 rfl) ?_
                refine lv_aload_n hx hb d_M_part_42 rfl (lv_at hl 2 rfl) ?_
                refine va_get (D := D) (ci := 10) (v := .ref (mm 6)) (C := "ValueTreesModel") (T := T_M) (N := 12) hx hb ht in_M hown hK.1 hM.1 0 rfl rfl 6 (by decide) (ht _ q545) (fun _ h9 => h9) rfl d_M_part_43 ?_
                refine lv_iload_n hx hb d_M_part_46 rfl (lv_at hl 4 rfl) ?_
                refine z_iald hx hb hK (hM.1 6 _ rfl) j9 rfl (by omega) (by decide) d_M_part_47 ?_
                rw [es8]
                refine lv_iadd hx hb d_M_part_48 ?_
                rw [show (((nI (160 * j9)) + (nI (cs v8).length)) : Int32) = nI ((160 * j9) + ((cs v8).length)) from nI_add (160 * j9) ((cs v8).length)]
                refine lv_istore (lv' := [(6, .int (nI ((160 * j9) + ((cs v8).length)))), (5, .int (nI (160 * j9))), (4, .int (nI (vty v8))), (0, .ref (mm 0)), (1, .int (nI j)), (2, .int (nI j9)), (3, .int 1)]) hx hb d_M_part_49 hl (by decide) rfl (fun ls hl => ?_)
                refine lv_aload_n hx hb d_M_part_51 rfl (lv_at hl 3 rfl) ?_
                refine va_get (D := D) (ci := 10) (v := .ref (mm 1)) (C := "ValueTreesModel") (T := T_M) (N := 12) hx hb ht in_M hown hK.1 hM.1 0 rfl rfl 0 (by decide) (ht _ q539) (fun _ h9 => h9) rfl d_M_part_52 ?_
                refine lv_iload hx hb d_M_part_55 (lv_at hl 2 rfl) ?_
                refine z_iald hx hb hK (hM.1 1 _ rfl) (vty v8) rfl (by omega) (by decide) d_M_part_57 ?_
                rw [(hT _ ht8).1]
                refine lv_tableIn (tgt := 343) hx hb d_M_part_58 (by rw [show ((nI (tW (tb (vty v8)))) : Int32) = 16 from (by rw [hword]; rfl)]; decide) (by rw [show ((nI (tW (tb (vty v8)))) : Int32) = 16 from (by rw [hword]; rfl)]; decide) (by rw [show ((nI (tW (tb (vty v8)))) : Int32) = 16 from (by rw [hword]; rfl)]; rfl) (by decide) ?_
                refine lv_iconst (v := (-1)) hx hb d_M_part_343 (by decide) ?_
                refine z_iretQ hx hb hr hlocks d_M_part_344 hS (Nat.le_refl _) (Nat.le_refl _) ?_
                have eo : o_part RV (nI j9) 1 = none := by unfold o_part; rw [rgs_nI hj9, hV8, ec9]; try rfl
                rw [eo]
                exact ⟨rfl, _, _, _, _, _, _, _, _, _, _, _, hM, hO, hT, hR, hWk⟩
            | add x y =>
              obtain ⟨hm9, hx9, hy9⟩ := hc9
              have hword : tW (tb (vty v8)) = 18 := by omega
              rw [f_add] at hfz
              rw [l_add] at hlz
              have hlv : (cs v8).length = (cs v8).length := rfl
              obtain ⟨hLk, hltk, hlpk⟩ := tl_some hO ht8 (by omega)
              have elk : lf (vty v8) = nI (lt_ tb (vty v8)) := by rw [(hT _ ht8).2.1, hLk]; rfl
              obtain ⟨hRk, hrtk, hrpk⟩ := tr_some hO ht8 (by omega)
              have erk : rt (vty v8) = nI (rt_ tb (vty v8)) := by rw [(hT _ ht8).2.2, hRk]; rfl
              have hlx : (cs v8).length = 2 + (cs x).length + (cs y).length := by rw [ec9, l_add]
              have hpk := (hO.2.2 _ (show lt_ tb (vty v8) < tc by omega)).2.2.2.2.2.2.2.2.1
              refine lv_aload_n hx hb d_M_part_26 rfl (lv_at hl 0 rfl) ?_
              refine va_get (D := D) (ci := 10) (v := .ref (mm 4)) (C := "ValueTreesModel") (T := T_M) (N := 12) hx hb ht in_M hown hK.1 hM.1 0 rfl rfl 4 (by decide) (ht _ q543) (fun _ h9 => h9) rfl d_M_part_27 ?_
              refine lv_iload_n hx hb d_M_part_30 rfl (lv_at hl 2 rfl) ?_
              refine z_iald hx hb hK (hM.1 4 _ rfl) j9 rfl (by omega) (by decide) d_M_part_31 ?_
              rw [et8]
              refine lv_istore (lv' := [(4, .int (nI (vty v8))), (0, .ref (mm 0)), (1, .int (nI j)), (2, .int (nI j9)), (3, .int 1)]) hx hb d_M_part_32 hl (by decide) rfl (fun ls hl => ?_)
              refine lv_iload_n hx hb d_M_part_34 rfl (lv_at hl 3 rfl) ?_
              refine z_callR (va_runS (As := [.int (nI j9)]) (rest := []) ⟨hx, hb, hml, hown, hts⟩ (c_M_base l D dT _ (nI j9)) ⟨callB_of 1 hts (gI gd_up gd_c q650) rfl rfl rfl (ht _ q10) (ht _ q648) hd_M_base ⟨Nat.le_of_ble_eq_true rfl, Nat.le_of_ble_eq_true rfl⟩, ht _ q649⟩ (z_preS hK) rfl rfl hl.1 rfl (lv_room (Nat.le_of_ble_eq_true rfl)) d_M_part_35 ⟨Nat.zero_le _, Nat.zero_le _⟩) (fun v127 hv126 => ?_)
              subst hv126
              rw [show (160 * nI j9 : Int32) = nI (160 * j9) from pk_mul 160 j9]
              refine lv_istore (lv' := [(5, .int (nI (160 * j9))), (4, .int (nI (vty v8))), (0, .ref (mm 0)), (1, .int (nI j)), (2, .int (nI j9)), (3, .int 1)]) hx hb d_M_part_38 hl (by decide) rfl (fun ls hl => ?_)
              refine lv_iload hx hb d_M_part_40 (lv_at hl 0 rfl) ?_
              refine lv_aload_n hx hb d_M_part_42 rfl (lv_at hl 2 rfl) ?_
              refine va_get (D := D) (ci := 10) (v := .ref (mm 6)) (C := "ValueTreesModel") (T := T_M) (N := 12) hx hb ht in_M hown hK.1 hM.1 0 rfl rfl 6 (by decide) (ht _ q545) (fun _ h9 => h9) rfl d_M_part_43 ?_
              refine lv_iload_n hx hb d_M_part_46 rfl (lv_at hl 4 rfl) ?_
              refine z_iald hx hb hK (hM.1 6 _ rfl) j9 rfl (by omega) (by decide) d_M_part_47 ?_
              rw [es8]
              refine lv_iadd hx hb d_M_part_48 ?_
              rw [show (((nI (160 * j9)) + (nI (cs v8).length)) : Int32) = nI ((160 * j9) + ((cs v8).length)) from nI_add (160 * j9) ((cs v8).length)]
              refine lv_istore (lv' := [(6, .int (nI ((160 * j9) + ((cs v8).length)))), (5, .int (nI (160 * j9))), (4, .int (nI (vty v8))), (0, .ref (mm 0)), (1, .int (nI j)), (2, .int (nI j9)), (3, .int 1)]) hx hb d_M_part_49 hl (by decide) rfl (fun ls hl => ?_)
              refine lv_aload_n hx hb d_M_part_51 rfl (lv_at hl 3 rfl) ?_
              refine va_get (D := D) (ci := 10) (v := .ref (mm 1)) (C := "ValueTreesModel") (T := T_M) (N := 12) hx hb ht in_M hown hK.1 hM.1 0 rfl rfl 0 (by decide) (ht _ q539) (fun _ h9 => h9) rfl d_M_part_52 ?_
              refine lv_iload hx hb d_M_part_55 (lv_at hl 2 rfl) ?_
              refine z_iald hx hb hK (hM.1 1 _ rfl) (vty v8) rfl (by omega) (by decide) d_M_part_57 ?_
              rw [(hT _ ht8).1]
              refine lv_tableIn (tgt := 197) hx hb d_M_part_58 (by rw [show ((nI (tW (tb (vty v8)))) : Int32) = 18 from (by rw [hword]; rfl)]; decide) (by rw [show ((nI (tW (tb (vty v8)))) : Int32) = 18 from (by rw [hword]; rfl)]; decide) (by rw [show ((nI (tW (tb (vty v8)))) : Int32) = 18 from (by rw [hword]; rfl)]; rfl) (by decide) ?_
              refine lv_aload_n hx hb d_M_part_197 rfl (lv_at hl 3 rfl) ?_
              refine lv_aload_n hx hb d_M_part_198 rfl (lv_at hl 3 rfl) ?_
              refine va_get (D := D) (ci := 10) (v := .ref (mm 2)) (C := "ValueTreesModel") (T := T_M) (N := 12) hx hb ht in_M hown hK.1 hM.1 0 rfl rfl 1 (by decide) (ht _ q540) (fun _ h9 => h9) rfl d_M_part_199 ?_
              refine lv_iload hx hb d_M_part_202 (lv_at hl 2 rfl) ?_
              refine z_iald hx hb hK (hM.1 2 _ rfl) (vty v8) rfl (by omega) (by decide) d_M_part_204 ?_
              rw [elk]
              refine lv_iload hx hb d_M_part_205 (lv_at hl 1 rfl) ?_
              refine lv_iconst (v := 2) hx hb d_M_part_207 (by decide) ?_
              refine lv_iadd hx hb d_M_part_208 ?_
              rw [show (((nI (160 * j9)) + 2) : Int32) = nI ((160 * j9) + 2) from nI_add (160 * j9) 2]
              refine z_callR (va_runV (C := "ValueTreesModel") (As := [.int (nI (lt_ tb (vty v8))), .int (nI ((160 * j9) + 2))]) (rest := []) ⟨hx, hb, hml, hown, hts⟩ (c_M_end l D dT _ mm wd lf rt tc ty F sz Wk wz dg dc sh hM hF tb hO hT 200 (lt_ tb (vty v8)) x ((160 * j9) + 2) (by omega) (by omega) hx9 hfz.2.2.1 (by omega)) ⟨callB_of 2 hts (gI gd_up gd_c q762) rfl rfl rfl (ht _ q10) (ht _ q759) hd_M_end ⟨Nat.le_of_ble_eq_true rfl, Nat.le_of_ble_eq_true rfl⟩, ht _ q761, ht _ qs43⟩ (z_preV hK (va_recv hK.1 hM.1 (ci := 10) (q0 := 0) rfl rfl)) rfl rfl hl.1 rfl (lv_room (Nat.le_of_ble_eq_true rfl)) d_M_part_209 ⟨Nat.zero_le _, Nat.zero_le _⟩) (fun v129 hv128 => ?_)
              subst hv128
              refine lv_istore (lv' := [(7, .int (nI ((160 * j9) + 2 + (cs x).length))), (6, .int (nI ((160 * j9) + ((cs v8).length)))), (5, .int (nI (160 * j9))), (4, .int (nI (vty v8))), (0, .ref (mm 0)), (1, .int (nI j)), (2, .int (nI j9)), (3, .int 1)]) hx hb d_M_part_212 hl (by decide) rfl (fun ls hl => ?_)
              refine lv_iload_n hx hb d_M_part_214 rfl (lv_at hl 7 rfl) ?_
              refine lv_if_ne (tgt := 239) hx hb d_M_part_215 (by decide) (fun _ => ?_) (fun c130 => absurd c130 (by decide))
              refine lv_aload_n hx hb d_M_part_239 rfl (lv_at hl 4 rfl) ?_
              refine lv_iload_n hx hb d_M_part_240 rfl (lv_at hl 5 rfl) ?_
              refine lv_aload_n hx hb d_M_part_241 rfl (lv_at hl 4 rfl) ?_
              refine va_get (D := D) (ci := 10) (v := .ref (mm 3)) (C := "ValueTreesModel") (T := T_M) (N := 12) hx hb ht in_M hown hK.1 hM.1 0 rfl rfl 2 (by decide) (ht _ q541) (fun _ h9 => h9) rfl d_M_part_242 ?_
              refine lv_iload hx hb d_M_part_245 (lv_at hl 3 rfl) ?_
              refine z_iald hx hb hK (hM.1 3 _ rfl) (vty v8) rfl (by omega) (by decide) d_M_part_247 ?_
              rw [erk]
              refine lv_iload hx hb d_M_part_248 (lv_at hl 0 rfl) ?_
              refine lv_iload hx hb d_M_part_250 (lv_at hl 1 rfl) ?_
              rw [show (160 * j9) + ((cs v8).length) = (160 * j9) + 2 + (cs x).length + (cs y).length from (by omega)]
              refine z_callQ (va_runV (C := "ValueTreesModel") (As := [.int (nI j), .int (nI (rt_ tb (vty v8))), .int (nI ((160 * j9) + 2 + (cs x).length)), .int (nI ((160 * j9) + 2 + (cs x).length + (cs y).length))]) (rest := []) ⟨hx, hb, hml, hown, hts⟩ (c_M_take l D dT _ mm wd lf rt tc ty F sz Wk wz dg dc sh hM hF hWk j (rt_ tb (vty v8)) ((160 * j9) + 2 + (cs x).length) (cs y) hj hfz.2.2.2 (by omega) (by omega)) ⟨callB_of 4 hts (gI gd_up gd_c q790) rfl rfl rfl (ht _ q10) (ht _ q787) hd_M_take ⟨Nat.le_of_ble_eq_true rfl, Nat.le_of_ble_eq_true rfl⟩, ht _ q789, ht _ qs48⟩ (z_preV hK (va_recv hK.1 hM.1 (ci := 10) (q0 := 0) rfl rfl)) rfl rfl hl.1 rfl (lv_room (Nat.le_of_ble_eq_true rfl)) d_M_part_252 ⟨Nat.le_refl _, Nat.le_refl _⟩) hS (fun _ h9 => h9) (fun v132 H locs hv131 hz133 hf134 hS => ?_)
              obtain ⟨r9v, er9⟩ : ∃ r9 : Int32, v132 = some (.int r9) := by obtain ⟨_, _, _, _, _, -, ⟨-, e8, -⟩ | ⟨-, e8, -⟩⟩ := hv131 <;> exact ⟨_, e8⟩
              subst er9
              refine W.eq (g2 := F0 m 255 ls [.int r9v]) rfl ?_
              refine z_iretQ hx hb hr hlocks d_M_part_255 hS (Nat.le_refl _) (Nat.le_refl _) ?_
              have eo : o_part RV (nI j9) 1 = some y := by unfold o_part; rw [rgs_nI hj9, hV8, ec9]; try rfl
              rw [eo]
              exact kO_done (x := y) hv131 hO hT hR hj (by omega) hy9
            | sub a9 x =>
              rw [f_sub] at hfz
              rw [l_sub] at hlz
              rcases hc9.2 with ⟨hword, rfl, hsub⟩ | ⟨hword, rfl, hsub⟩ | ⟨hword, rfl, hsub⟩
              · have hf1 : F (160 * j9 + 1) = 9 := hfz.2.1
                have hlv : (cs v8).length = (cs v8).length := rfl
                obtain ⟨hLk, hltk, hlpk⟩ := tl_some hO ht8 (by omega)
                have elk : lf (vty v8) = nI (lt_ tb (vty v8)) := by rw [(hT _ ht8).2.1, hLk]; rfl
                have hlx : (cs v8).length = 2 + (cs x).length := by rw [ec9, l_sub]
                refine lv_aload_n hx hb d_M_part_26 rfl (lv_at hl 0 rfl) ?_
                refine va_get (D := D) (ci := 10) (v := .ref (mm 4)) (C := "ValueTreesModel") (T := T_M) (N := 12) hx hb ht in_M hown hK.1 hM.1 0 rfl rfl 4 (by decide) (ht _ q543) (fun _ h9 => h9) rfl d_M_part_27 ?_
                refine lv_iload_n hx hb d_M_part_30 rfl (lv_at hl 2 rfl) ?_
                refine z_iald hx hb hK (hM.1 4 _ rfl) j9 rfl (by omega) (by decide) d_M_part_31 ?_
                rw [et8]
                refine lv_istore (lv' := [(4, .int (nI (vty v8))), (0, .ref (mm 0)), (1, .int (nI j)), (2, .int (nI j9)), (3, .int 1)]) hx hb d_M_part_32 hl (by decide) rfl (fun ls hl => ?_)
                refine lv_iload_n hx hb d_M_part_34 rfl (lv_at hl 3 rfl) ?_
                refine z_callR (va_runS (As := [.int (nI j9)]) (rest := []) ⟨hx, hb, hml, hown, hts⟩ (c_M_base l D dT _ (nI j9)) ⟨callB_of 1 hts (gI gd_up gd_c q650) rfl rfl rfl (ht _ q10) (ht _ q648) hd_M_base ⟨Nat.le_of_ble_eq_true rfl, Nat.le_of_ble_eq_true rfl⟩, ht _ q649⟩ (z_preS hK) rfl rfl hl.1 rfl (lv_room (Nat.le_of_ble_eq_true rfl)) d_M_part_35 ⟨Nat.zero_le _, Nat.zero_le _⟩) (fun v136 hv135 => ?_)
                subst hv135
                rw [show (160 * nI j9 : Int32) = nI (160 * j9) from pk_mul 160 j9]
                refine lv_istore (lv' := [(5, .int (nI (160 * j9))), (4, .int (nI (vty v8))), (0, .ref (mm 0)), (1, .int (nI j)), (2, .int (nI j9)), (3, .int 1)]) hx hb d_M_part_38 hl (by decide) rfl (fun ls hl => ?_)
                refine lv_iload hx hb d_M_part_40 (lv_at hl 0 rfl) ?_
                refine lv_aload_n hx hb d_M_part_42 rfl (lv_at hl 2 rfl) ?_
                refine va_get (D := D) (ci := 10) (v := .ref (mm 6)) (C := "ValueTreesModel") (T := T_M) (N := 12) hx hb ht in_M hown hK.1 hM.1 0 rfl rfl 6 (by decide) (ht _ q545) (fun _ h9 => h9) rfl d_M_part_43 ?_
                refine lv_iload_n hx hb d_M_part_46 rfl (lv_at hl 4 rfl) ?_
                refine z_iald hx hb hK (hM.1 6 _ rfl) j9 rfl (by omega) (by decide) d_M_part_47 ?_
                rw [es8]
                refine lv_iadd hx hb d_M_part_48 ?_
                rw [show (((nI (160 * j9)) + (nI (cs v8).length)) : Int32) = nI ((160 * j9) + ((cs v8).length)) from nI_add (160 * j9) ((cs v8).length)]
                refine lv_istore (lv' := [(6, .int (nI ((160 * j9) + ((cs v8).length)))), (5, .int (nI (160 * j9))), (4, .int (nI (vty v8))), (0, .ref (mm 0)), (1, .int (nI j)), (2, .int (nI j9)), (3, .int 1)]) hx hb d_M_part_49 hl (by decide) rfl (fun ls hl => ?_)
                refine lv_aload_n hx hb d_M_part_51 rfl (lv_at hl 3 rfl) ?_
                refine va_get (D := D) (ci := 10) (v := .ref (mm 1)) (C := "ValueTreesModel") (T := T_M) (N := 12) hx hb ht in_M hown hK.1 hM.1 0 rfl rfl 0 (by decide) (ht _ q539) (fun _ h9 => h9) rfl d_M_part_52 ?_
                refine lv_iload hx hb d_M_part_55 (lv_at hl 2 rfl) ?_
                refine z_iald hx hb hK (hM.1 1 _ rfl) (vty v8) rfl (by omega) (by decide) d_M_part_57 ?_
                rw [(hT _ ht8).1]
                refine lv_tableIn (tgt := 108) hx hb d_M_part_58 (by rw [show ((nI (tW (tb (vty v8)))) : Int32) = 10 from (by rw [hword]; rfl)]; decide) (by rw [show ((nI (tW (tb (vty v8)))) : Int32) = 10 from (by rw [hword]; rfl)]; decide) (by rw [show ((nI (tW (tb (vty v8)))) : Int32) = 10 from (by rw [hword]; rfl)]; rfl) (by decide) ?_
                refine lv_iload_n hx hb d_M_part_108 rfl (lv_at hl 6 rfl) ?_
                refine lv_if_gt (tgt := 125) hx hb d_M_part_109 (by decide) (fun _ => ?_) (fun c137 => absurd c137 (by decide))
                refine lv_iconst (v := (-1)) hx hb d_M_part_125 (by decide) ?_
                refine lv_goto (tgt := 147) hx hb d_M_part_126 (by decide) ?_
                refine z_iretQ hx hb hr hlocks d_M_part_147 hS (Nat.le_refl _) (Nat.le_refl _) ?_
                have eo : o_part RV (nI j9) 1 = none := by unfold o_part; rw [rgs_nI hj9, hV8, ec9]; try rfl
                rw [eo]
                exact ⟨rfl, _, _, _, _, _, _, _, _, _, _, _, hM, hO, hT, hR, hWk⟩
              · have hf1 : F (160 * j9 + 1) = 5 := hfz.2.1
                have hlv : (cs v8).length = (cs v8).length := rfl
                obtain ⟨hLk, hltk, hlpk⟩ := tl_some hO ht8 (by omega)
                have elk : lf (vty v8) = nI (lt_ tb (vty v8)) := by rw [(hT _ ht8).2.1, hLk]; rfl
                obtain ⟨hRk, hrtk, hrpk⟩ := tr_some hO ht8 (by omega)
                have erk : rt (vty v8) = nI (rt_ tb (vty v8)) := by rw [(hT _ ht8).2.2, hRk]; rfl
                have hlx : (cs v8).length = 2 + (cs x).length := by rw [ec9, l_sub]
                refine lv_aload_n hx hb d_M_part_26 rfl (lv_at hl 0 rfl) ?_
                refine va_get (D := D) (ci := 10) (v := .ref (mm 4)) (C := "ValueTreesModel") (T := T_M) (N := 12) hx hb ht in_M hown hK.1 hM.1 0 rfl rfl 4 (by decide) (ht _ q543) (fun _ h9 => h9) rfl d_M_part_27 ?_
                refine lv_iload_n hx hb d_M_part_30 rfl (lv_at hl 2 rfl) ?_
                refine z_iald hx hb hK (hM.1 4 _ rfl) j9 rfl (by omega) (by decide) d_M_part_31 ?_
                rw [et8]
                refine lv_istore (lv' := [(4, .int (nI (vty v8))), (0, .ref (mm 0)), (1, .int (nI j)), (2, .int (nI j9)), (3, .int 1)]) hx hb d_M_part_32 hl (by decide) rfl (fun ls hl => ?_)
                refine lv_iload_n hx hb d_M_part_34 rfl (lv_at hl 3 rfl) ?_
                refine z_callR (va_runS (As := [.int (nI j9)]) (rest := []) ⟨hx, hb, hml, hown, hts⟩ (c_M_base l D dT _ (nI j9)) ⟨callB_of 1 hts (gI gd_up gd_c q650) rfl rfl rfl (ht _ q10) (ht _ q648) hd_M_base ⟨Nat.le_of_ble_eq_true rfl, Nat.le_of_ble_eq_true rfl⟩, ht _ q649⟩ (z_preS hK) rfl rfl hl.1 rfl (lv_room (Nat.le_of_ble_eq_true rfl)) d_M_part_35 ⟨Nat.zero_le _, Nat.zero_le _⟩) (fun v139 hv138 => ?_)
                subst hv138
                rw [show (160 * nI j9 : Int32) = nI (160 * j9) from pk_mul 160 j9]
                refine lv_istore (lv' := [(5, .int (nI (160 * j9))), (4, .int (nI (vty v8))), (0, .ref (mm 0)), (1, .int (nI j)), (2, .int (nI j9)), (3, .int 1)]) hx hb d_M_part_38 hl (by decide) rfl (fun ls hl => ?_)
                refine lv_iload hx hb d_M_part_40 (lv_at hl 0 rfl) ?_
                refine lv_aload_n hx hb d_M_part_42 rfl (lv_at hl 2 rfl) ?_
                refine va_get (D := D) (ci := 10) (v := .ref (mm 6)) (C := "ValueTreesModel") (T := T_M) (N := 12) hx hb ht in_M hown hK.1 hM.1 0 rfl rfl 6 (by decide) (ht _ q545) (fun _ h9 => h9) rfl d_M_part_43 ?_
                refine lv_iload_n hx hb d_M_part_46 rfl (lv_at hl 4 rfl) ?_
                refine z_iald hx hb hK (hM.1 6 _ rfl) j9 rfl (by omega) (by decide) d_M_part_47 ?_
                rw [es8]
                refine lv_iadd hx hb d_M_part_48 ?_
                rw [show (((nI (160 * j9)) + (nI (cs v8).length)) : Int32) = nI ((160 * j9) + ((cs v8).length)) from nI_add (160 * j9) ((cs v8).length)]
                refine lv_istore (lv' := [(6, .int (nI ((160 * j9) + ((cs v8).length)))), (5, .int (nI (160 * j9))), (4, .int (nI (vty v8))), (0, .ref (mm 0)), (1, .int (nI j)), (2, .int (nI j9)), (3, .int 1)]) hx hb d_M_part_49 hl (by decide) rfl (fun ls hl => ?_)
                refine lv_aload_n hx hb d_M_part_51 rfl (lv_at hl 3 rfl) ?_
                refine va_get (D := D) (ci := 10) (v := .ref (mm 1)) (C := "ValueTreesModel") (T := T_M) (N := 12) hx hb ht in_M hown hK.1 hM.1 0 rfl rfl 0 (by decide) (ht _ q539) (fun _ h9 => h9) rfl d_M_part_52 ?_
                refine lv_iload hx hb d_M_part_55 (lv_at hl 2 rfl) ?_
                refine z_iald hx hb hK (hM.1 1 _ rfl) (vty v8) rfl (by omega) (by decide) d_M_part_57 ?_
                rw [(hT _ ht8).1]
                refine lv_tableIn (tgt := 148) hx hb d_M_part_58 (by rw [show ((nI (tW (tb (vty v8)))) : Int32) = 14 from (by rw [hword]; rfl)]; decide) (by rw [show ((nI (tW (tb (vty v8)))) : Int32) = 14 from (by rw [hword]; rfl)]; decide) (by rw [show ((nI (tW (tb (vty v8)))) : Int32) = 14 from (by rw [hword]; rfl)]; rfl) (by decide) ?_
                refine lv_iload_n hx hb d_M_part_148 rfl (lv_at hl 6 rfl) ?_
                refine lv_if_le (tgt := 156) hx hb d_M_part_149 (by decide) (fun c140 => absurd c140 (by decide)) (fun _ => ?_)
                refine lv_iconst (v := (-1)) hx hb d_M_part_152 (by decide) ?_
                refine lv_goto (tgt := 196) hx hb d_M_part_153 (by decide) ?_
                refine z_iretQ hx hb hr hlocks d_M_part_196 hS (Nat.le_refl _) (Nat.le_refl _) ?_
                have eo : o_part RV (nI j9) 1 = none := by unfold o_part; rw [rgs_nI hj9, hV8, ec9]; try rfl
                rw [eo]
                exact ⟨rfl, _, _, _, _, _, _, _, _, _, _, _, hM, hO, hT, hR, hWk⟩
              · have hf1 : F (160 * j9 + 1) = 8 := hfz.2.1
                have hlv : (cs v8).length = (cs v8).length := rfl
                obtain ⟨hLk, hltk, hlpk⟩ := tl_some hO ht8 (by omega)
                have elk : lf (vty v8) = nI (lt_ tb (vty v8)) := by rw [(hT _ ht8).2.1, hLk]; rfl
                obtain ⟨hRk, hrtk, hrpk⟩ := tr_some hO ht8 (by omega)
                have erk : rt (vty v8) = nI (rt_ tb (vty v8)) := by rw [(hT _ ht8).2.2, hRk]; rfl
                have hlx : (cs v8).length = 2 + (cs x).length := by rw [ec9, l_sub]
                refine lv_aload_n hx hb d_M_part_26 rfl (lv_at hl 0 rfl) ?_
                refine va_get (D := D) (ci := 10) (v := .ref (mm 4)) (C := "ValueTreesModel") (T := T_M) (N := 12) hx hb ht in_M hown hK.1 hM.1 0 rfl rfl 4 (by decide) (ht _ q543) (fun _ h9 => h9) rfl d_M_part_27 ?_
                refine lv_iload_n hx hb d_M_part_30 rfl (lv_at hl 2 rfl) ?_
                refine z_iald hx hb hK (hM.1 4 _ rfl) j9 rfl (by omega) (by decide) d_M_part_31 ?_
                rw [et8]
                refine lv_istore (lv' := [(4, .int (nI (vty v8))), (0, .ref (mm 0)), (1, .int (nI j)), (2, .int (nI j9)), (3, .int 1)]) hx hb d_M_part_32 hl (by decide) rfl (fun ls hl => ?_)
                refine lv_iload_n hx hb d_M_part_34 rfl (lv_at hl 3 rfl) ?_
                refine z_callR (va_runS (As := [.int (nI j9)]) (rest := []) ⟨hx, hb, hml, hown, hts⟩ (c_M_base l D dT _ (nI j9)) ⟨callB_of 1 hts (gI gd_up gd_c q650) rfl rfl rfl (ht _ q10) (ht _ q648) hd_M_base ⟨Nat.le_of_ble_eq_true rfl, Nat.le_of_ble_eq_true rfl⟩, ht _ q649⟩ (z_preS hK) rfl rfl hl.1 rfl (lv_room (Nat.le_of_ble_eq_true rfl)) d_M_part_35 ⟨Nat.zero_le _, Nat.zero_le _⟩) (fun v142 hv141 => ?_)
                subst hv141
                rw [show (160 * nI j9 : Int32) = nI (160 * j9) from pk_mul 160 j9]
                refine lv_istore (lv' := [(5, .int (nI (160 * j9))), (4, .int (nI (vty v8))), (0, .ref (mm 0)), (1, .int (nI j)), (2, .int (nI j9)), (3, .int 1)]) hx hb d_M_part_38 hl (by decide) rfl (fun ls hl => ?_)
                refine lv_iload hx hb d_M_part_40 (lv_at hl 0 rfl) ?_
                refine lv_aload_n hx hb d_M_part_42 rfl (lv_at hl 2 rfl) ?_
                refine va_get (D := D) (ci := 10) (v := .ref (mm 6)) (C := "ValueTreesModel") (T := T_M) (N := 12) hx hb ht in_M hown hK.1 hM.1 0 rfl rfl 6 (by decide) (ht _ q545) (fun _ h9 => h9) rfl d_M_part_43 ?_
                refine lv_iload_n hx hb d_M_part_46 rfl (lv_at hl 4 rfl) ?_
                refine z_iald hx hb hK (hM.1 6 _ rfl) j9 rfl (by omega) (by decide) d_M_part_47 ?_
                rw [es8]
                refine lv_iadd hx hb d_M_part_48 ?_
                rw [show (((nI (160 * j9)) + (nI (cs v8).length)) : Int32) = nI ((160 * j9) + ((cs v8).length)) from nI_add (160 * j9) ((cs v8).length)]
                refine lv_istore (lv' := [(6, .int (nI ((160 * j9) + ((cs v8).length)))), (5, .int (nI (160 * j9))), (4, .int (nI (vty v8))), (0, .ref (mm 0)), (1, .int (nI j)), (2, .int (nI j9)), (3, .int 1)]) hx hb d_M_part_49 hl (by decide) rfl (fun ls hl => ?_)
                refine lv_aload_n hx hb d_M_part_51 rfl (lv_at hl 3 rfl) ?_
                refine va_get (D := D) (ci := 10) (v := .ref (mm 1)) (C := "ValueTreesModel") (T := T_M) (N := 12) hx hb ht in_M hown hK.1 hM.1 0 rfl rfl 0 (by decide) (ht _ q539) (fun _ h9 => h9) rfl d_M_part_52 ?_
                refine lv_iload hx hb d_M_part_55 (lv_at hl 2 rfl) ?_
                refine z_iald hx hb hK (hM.1 1 _ rfl) (vty v8) rfl (by omega) (by decide) d_M_part_57 ?_
                rw [(hT _ ht8).1]
                refine lv_tableIn (tgt := 148) hx hb d_M_part_58 (by rw [show ((nI (tW (tb (vty v8)))) : Int32) = 14 from (by rw [hword]; rfl)]; decide) (by rw [show ((nI (tW (tb (vty v8)))) : Int32) = 14 from (by rw [hword]; rfl)]; decide) (by rw [show ((nI (tW (tb (vty v8)))) : Int32) = 14 from (by rw [hword]; rfl)]; rfl) (by decide) ?_
                refine lv_iload_n hx hb d_M_part_148 rfl (lv_at hl 6 rfl) ?_
                refine lv_if_le (tgt := 156) hx hb d_M_part_149 (by decide) (fun c143 => absurd c143 (by decide)) (fun _ => ?_)
                refine lv_iconst (v := (-1)) hx hb d_M_part_152 (by decide) ?_
                refine lv_goto (tgt := 196) hx hb d_M_part_153 (by decide) ?_
                refine z_iretQ hx hb hr hlocks d_M_part_196 hS (Nat.le_refl _) (Nat.le_refl _) ?_
                have eo : o_part RV (nI j9) 1 = none := by unfold o_part; rw [rgs_nI hj9, hV8, ec9]; try rfl
                rw [eo]
                exact ⟨rfl, _, _, _, _, _, _, _, _, _, _, _, hM, hO, hT, hR, hWk⟩
            | mul x y =>
              obtain ⟨hword, hx9, hy9⟩ : tW (tb (vty v8)) = 11 ∧ wty tb x 0 (lt_ tb (vty v8)) ∧ wty tb y 1 (vty v8) := by
                rcases hc9 with ⟨-, a1, a2, a3⟩ | ⟨a1, -⟩ | ⟨a1, -⟩
                · exact ⟨a1, a2, a3⟩
                · exact absurd a1 (by decide)
                · exact absurd a1 (by decide)
              have hcm : cs (.mul x y) = cs x ++ cs y := by rw [cs_mul, eb_pow hx9]
              rw [f_mul, hcm, fAt_app] at hfz
              rw [l_mul, hcm, List.length_append] at hlz
              have hge := cs_ge hx9
              have hlv : (cs v8).length = (cs v8).length := rfl
              obtain ⟨hLk, hltk, hlpk⟩ := tl_some hO ht8 (by omega)
              have elk : lf (vty v8) = nI (lt_ tb (vty v8)) := by rw [(hT _ ht8).2.1, hLk]; rfl
              have hlx : (cs v8).length = 5 + (cs x).length + (cs y).length := by rw [ec9, l_mul, hcm, List.length_append]; omega
              have hpk := (hO.2.2 _ (show lt_ tb (vty v8) < tc by omega)).2.2.2.2.2.2.2.2.1
              refine lv_aload_n hx hb d_M_part_26 rfl (lv_at hl 0 rfl) ?_
              refine va_get (D := D) (ci := 10) (v := .ref (mm 4)) (C := "ValueTreesModel") (T := T_M) (N := 12) hx hb ht in_M hown hK.1 hM.1 0 rfl rfl 4 (by decide) (ht _ q543) (fun _ h9 => h9) rfl d_M_part_27 ?_
              refine lv_iload_n hx hb d_M_part_30 rfl (lv_at hl 2 rfl) ?_
              refine z_iald hx hb hK (hM.1 4 _ rfl) j9 rfl (by omega) (by decide) d_M_part_31 ?_
              rw [et8]
              refine lv_istore (lv' := [(4, .int (nI (vty v8))), (0, .ref (mm 0)), (1, .int (nI j)), (2, .int (nI j9)), (3, .int 1)]) hx hb d_M_part_32 hl (by decide) rfl (fun ls hl => ?_)
              refine lv_iload_n hx hb d_M_part_34 rfl (lv_at hl 3 rfl) ?_
              refine z_callR (va_runS (As := [.int (nI j9)]) (rest := []) ⟨hx, hb, hml, hown, hts⟩ (c_M_base l D dT _ (nI j9)) ⟨callB_of 1 hts (gI gd_up gd_c q650) rfl rfl rfl (ht _ q10) (ht _ q648) hd_M_base ⟨Nat.le_of_ble_eq_true rfl, Nat.le_of_ble_eq_true rfl⟩, ht _ q649⟩ (z_preS hK) rfl rfl hl.1 rfl (lv_room (Nat.le_of_ble_eq_true rfl)) d_M_part_35 ⟨Nat.zero_le _, Nat.zero_le _⟩) (fun v145 hv144 => ?_)
              subst hv144
              rw [show (160 * nI j9 : Int32) = nI (160 * j9) from pk_mul 160 j9]
              refine lv_istore (lv' := [(5, .int (nI (160 * j9))), (4, .int (nI (vty v8))), (0, .ref (mm 0)), (1, .int (nI j)), (2, .int (nI j9)), (3, .int 1)]) hx hb d_M_part_38 hl (by decide) rfl (fun ls hl => ?_)
              refine lv_iload hx hb d_M_part_40 (lv_at hl 0 rfl) ?_
              refine lv_aload_n hx hb d_M_part_42 rfl (lv_at hl 2 rfl) ?_
              refine va_get (D := D) (ci := 10) (v := .ref (mm 6)) (C := "ValueTreesModel") (T := T_M) (N := 12) hx hb ht in_M hown hK.1 hM.1 0 rfl rfl 6 (by decide) (ht _ q545) (fun _ h9 => h9) rfl d_M_part_43 ?_
              refine lv_iload_n hx hb d_M_part_46 rfl (lv_at hl 4 rfl) ?_
              refine z_iald hx hb hK (hM.1 6 _ rfl) j9 rfl (by omega) (by decide) d_M_part_47 ?_
              rw [es8]
              refine lv_iadd hx hb d_M_part_48 ?_
              rw [show (((nI (160 * j9)) + (nI (cs v8).length)) : Int32) = nI ((160 * j9) + ((cs v8).length)) from nI_add (160 * j9) ((cs v8).length)]
              refine lv_istore (lv' := [(6, .int (nI ((160 * j9) + ((cs v8).length)))), (5, .int (nI (160 * j9))), (4, .int (nI (vty v8))), (0, .ref (mm 0)), (1, .int (nI j)), (2, .int (nI j9)), (3, .int 1)]) hx hb d_M_part_49 hl (by decide) rfl (fun ls hl => ?_)
              refine lv_aload_n hx hb d_M_part_51 rfl (lv_at hl 3 rfl) ?_
              refine va_get (D := D) (ci := 10) (v := .ref (mm 1)) (C := "ValueTreesModel") (T := T_M) (N := 12) hx hb ht in_M hown hK.1 hM.1 0 rfl rfl 0 (by decide) (ht _ q539) (fun _ h9 => h9) rfl d_M_part_52 ?_
              refine lv_iload hx hb d_M_part_55 (lv_at hl 2 rfl) ?_
              refine z_iald hx hb hK (hM.1 1 _ rfl) (vty v8) rfl (by omega) (by decide) d_M_part_57 ?_
              rw [(hT _ ht8).1]
              refine lv_tableIn (tgt := 256) hx hb d_M_part_58 (by rw [show ((nI (tW (tb (vty v8)))) : Int32) = 11 from (by rw [hword]; rfl)]; decide) (by rw [show ((nI (tW (tb (vty v8)))) : Int32) = 11 from (by rw [hword]; rfl)]; decide) (by rw [show ((nI (tW (tb (vty v8)))) : Int32) = 11 from (by rw [hword]; rfl)]; rfl) (by decide) ?_
              refine lv_aload_n hx hb d_M_part_256 rfl (lv_at hl 3 rfl) ?_
              refine va_get (D := D) (ci := 10) (v := .ref (mm 6)) (C := "ValueTreesModel") (T := T_M) (N := 12) hx hb ht in_M hown hK.1 hM.1 0 rfl rfl 6 (by decide) (ht _ q545) (fun _ h9 => h9) rfl d_M_part_257 ?_
              refine lv_iload_n hx hb d_M_part_260 rfl (lv_at hl 5 rfl) ?_
              refine z_iald hx hb hK (hM.1 6 _ rfl) j9 rfl (by omega) (by decide) d_M_part_261 ?_
              rw [es8]
              refine lv_iconst (v := 5) hx hb d_M_part_262 (by decide) ?_
              refine lv_icmp_ne (tgt := 268) hx hb d_M_part_263 (by decide) (fun c146 => ?_) (fun c146 => ?_)
              · have nc146 : ¬ ((cs v8).length) = 5 := fun h9 => c146 ((nI_eq (a := ((cs v8).length)) (b := 5) (by omega) (by omega)).mpr h9)
                refine lv_aload_n hx hb d_M_part_268 rfl (lv_at hl 3 rfl) ?_
                refine lv_aload_n hx hb d_M_part_269 rfl (lv_at hl 3 rfl) ?_
                refine va_get (D := D) (ci := 10) (v := .ref (mm 2)) (C := "ValueTreesModel") (T := T_M) (N := 12) hx hb ht in_M hown hK.1 hM.1 0 rfl rfl 1 (by decide) (ht _ q540) (fun _ h9 => h9) rfl d_M_part_270 ?_
                refine lv_iload hx hb d_M_part_273 (lv_at hl 2 rfl) ?_
                refine z_iald hx hb hK (hM.1 2 _ rfl) (vty v8) rfl (by omega) (by decide) d_M_part_275 ?_
                rw [elk]
                refine lv_iload hx hb d_M_part_276 (lv_at hl 1 rfl) ?_
                refine lv_iconst (v := 5) hx hb d_M_part_278 (by decide) ?_
                refine lv_iadd hx hb d_M_part_279 ?_
                rw [show (((nI (160 * j9)) + 5) : Int32) = nI ((160 * j9) + 5) from nI_add (160 * j9) 5]
                refine z_callR (va_runV (C := "ValueTreesModel") (As := [.int (nI (lt_ tb (vty v8))), .int (nI ((160 * j9) + 5))]) (rest := []) ⟨hx, hb, hml, hown, hts⟩ (c_M_end l D dT _ mm wd lf rt tc ty F sz Wk wz dg dc sh hM hF tb hO hT 200 (lt_ tb (vty v8)) x ((160 * j9) + 5) (by omega) (by omega) hx9 hfz.2.2.1 (by omega)) ⟨callB_of 2 hts (gI gd_up gd_c q762) rfl rfl rfl (ht _ q10) (ht _ q759) hd_M_end ⟨Nat.le_of_ble_eq_true rfl, Nat.le_of_ble_eq_true rfl⟩, ht _ q761, ht _ qs43⟩ (z_preV hK (va_recv hK.1 hM.1 (ci := 10) (q0 := 0) rfl rfl)) rfl rfl hl.1 rfl (lv_room (Nat.le_of_ble_eq_true rfl)) d_M_part_280 ⟨Nat.zero_le _, Nat.zero_le _⟩) (fun v148 hv147 => ?_)
                subst hv147
                refine lv_istore (lv' := [(8, .int (nI ((160 * j9) + 5 + (cs x).length))), (6, .int (nI ((160 * j9) + ((cs v8).length)))), (5, .int (nI (160 * j9))), (4, .int (nI (vty v8))), (0, .ref (mm 0)), (1, .int (nI j)), (2, .int (nI j9)), (3, .int 1)]) hx hb d_M_part_283 hl (by decide) rfl (fun ls hl => ?_)
                refine lv_iload_n hx hb d_M_part_285 rfl (lv_at hl 7 rfl) ?_
                refine lv_if_ne (tgt := 308) hx hb d_M_part_286 (by decide) (fun _ => ?_) (fun c149 => absurd c149 (by decide))
                refine lv_aload_n hx hb d_M_part_308 rfl (lv_at hl 4 rfl) ?_
                refine lv_iconst (v := 0) hx hb d_M_part_309 (by decide) ?_
                refine m_put_wz hx hb ht hown hK hM hS (ht _ q547) 0 rfl d_M_part_310 (fun H locs hM hS => ?_)
                have hM : mAt D dT mm wd lf rt tc ty F sz Wk 0 dg dc sh H := hM
                have hW : wAt Wk ([] : List Nat) := wAt_nil hWk
                have hM : mAt D dT mm wd lf rt tc ty F sz Wk (([] : List Nat).length) dg dc sh H := hM
                refine lv_aload_n hx hb d_M_part_313 rfl (lv_at hl 4 rfl) ?_
                refine lv_iconst (v := 2) hx hb d_M_part_314 (by decide) ?_
                refine z_callQ (va_runV (C := "ValueTreesModel") (As := [.int 2]) (rest := []) ⟨hx, hb, hml, hown, hts⟩ (c_M_lay l D dT _ mm wd lf rt tc ty F sz Wk ([] : List Nat) dg dc sh hM hW 2 (by (try simp only [List.length_append, List.length_cons, List.length_nil, size4_len]); omega)) ⟨callB_of 1 hts (gI gd_up gd_c q635) rfl rfl rfl (ht _ q10) (ht _ q632) hd_M_lay ⟨Nat.le_of_ble_eq_true rfl, Nat.le_of_ble_eq_true rfl⟩, ht _ q634, ht _ qs22⟩ (z_preV hK (va_recv hK.1 hM.1 (ci := 10) (q0 := 0) rfl rfl)) rfl rfl hl.1 rfl (lv_room (Nat.le_of_ble_eq_true rfl)) d_M_part_315 ⟨Nat.le_refl _, Nat.le_refl _⟩) hS (fun _ h9 => h9) (fun v151 H locs hv150 hz152 hf153 hS => ?_)
                obtain ⟨rfl, Wk, hW, hWk154, hM⟩ := hv150
                refine W.eq (g2 := F0 m 318 ls []) rfl ?_
                refine lv_aload_n hx hb d_M_part_318 rfl (lv_at hl 4 rfl) ?_
                refine lv_iload hx hb d_M_part_319 (lv_at hl 1 rfl) ?_
                refine lv_iload hx hb d_M_part_321 (lv_at hl 0 rfl) ?_
                refine lv_isub hx hb d_M_part_323 ?_
                rw [show (((nI ((160 * j9) + ((cs v8).length))) - (nI ((160 * j9) + 5 + (cs x).length))) : Int32) = nI (((160 * j9) + ((cs v8).length)) - ((160 * j9) + 5 + (cs x).length)) from pk_sub (a := ((160 * j9) + ((cs v8).length))) (b := ((160 * j9) + 5 + (cs x).length)) (by omega)]
                refine z_callQ (va_runV (C := "ValueTreesModel") (As := [.int (nI (((160 * j9) + ((cs v8).length)) - ((160 * j9) + 5 + (cs x).length)))]) (rest := []) ⟨hx, hb, hml, hown, hts⟩ (c_M_putSize l D dT _ mm wd lf rt tc ty F sz Wk (([] : List Nat) ++ [2 % 256]) dg dc sh hM hW (((160 * j9) + ((cs v8).length)) - ((160 * j9) + 5 + (cs x).length)) (by omega) (by (try simp only [List.length_append, List.length_cons, List.length_nil, size4_len]); omega)) ⟨callB_of 1 hts (gI gd_up gd_c q687) rfl rfl rfl (ht _ q10) (ht _ q684) hd_M_putSize ⟨Nat.le_of_ble_eq_true rfl, Nat.le_of_ble_eq_true rfl⟩, ht _ q686, ht _ qs32⟩ (z_preV hK (va_recv hK.1 hM.1 (ci := 10) (q0 := 0) rfl rfl)) rfl rfl hl.1 rfl (lv_room (Nat.le_of_ble_eq_true rfl)) d_M_part_324 ⟨Nat.le_refl _, Nat.le_refl _⟩) hS (fun _ h9 => h9) (fun v156 H locs hv155 hz157 hf158 hS => ?_)
                obtain ⟨rfl, Wk, hW, hWk159, hM⟩ := hv155
                refine W.eq (g2 := F0 m 327 ls []) rfl ?_
                refine lv_aload_n hx hb d_M_part_327 rfl (lv_at hl 4 rfl) ?_
                refine lv_iload hx hb d_M_part_328 (lv_at hl 0 rfl) ?_
                refine lv_iload hx hb d_M_part_330 (lv_at hl 1 rfl) ?_
                rw [show (160 * j9) + ((cs v8).length) = (160 * j9) + 5 + (cs x).length + (cs y).length from (by omega)]
                refine z_callQ (va_runV (C := "ValueTreesModel") (As := [.int (nI ((160 * j9) + 5 + (cs x).length)), .int (nI ((160 * j9) + 5 + (cs x).length + (cs y).length))]) (rest := []) ⟨hx, hb, hml, hown, hts⟩ (c_M_putFrom l D dT _ mm wd lf rt tc ty F sz Wk (([] : List Nat) ++ [2 % 256] ++ size4 (((160 * j9) + ((cs v8).length)) - ((160 * j9) + 5 + (cs x).length))) dg dc sh hM hW hF ((160 * j9) + 5 + (cs x).length) (cs y) hfz.2.2.2 (by omega) (by (try simp only [List.length_append, List.length_cons, List.length_nil, size4_len]); omega)) ⟨callB_of 2 hts (gI gd_up gd_c q707) rfl rfl rfl (ht _ q10) (ht _ q704) hd_M_putFrom ⟨Nat.le_of_ble_eq_true rfl, Nat.le_of_ble_eq_true rfl⟩, ht _ q706, ht _ qs33⟩ (z_preV hK (va_recv hK.1 hM.1 (ci := 10) (q0 := 0) rfl rfl)) rfl rfl hl.1 rfl (lv_room (Nat.le_of_ble_eq_true rfl)) d_M_part_332 ⟨Nat.le_refl _, Nat.le_refl _⟩) hS (fun _ h9 => h9) (fun v161 H locs hv160 hz162 hf163 hS => ?_)
                obtain ⟨rfl, Wk, hW, hM⟩ := hv160
                refine W.eq (g2 := F0 m 335 ls []) rfl ?_
                refine lv_aload_n hx hb d_M_part_335 rfl (lv_at hl 4 rfl) ?_
                refine lv_iload_n hx hb d_M_part_336 rfl (lv_at hl 5 rfl) ?_
                refine lv_iload hx hb d_M_part_337 (lv_at hl 3 rfl) ?_
                have ebs : ([] : List Nat) ++ [2 % 256] ++ size4 (((160 * j9) + ((cs v8).length)) - ((160 * j9) + 5 + (cs x).length)) ++ (cs y) = cs (.pow y (vty v8)) := (by rw [w11_core hy9 hword, show 160 * j9 + (cs v8).length - (160 * j9 + 5 + (cs x).length) = (cs y).length by omega]; simp)
                rw [ebs] at hW hM
                refine z_callQ (va_runV (C := "ValueTreesModel") (As := [.int (nI j), .int (nI (vty v8))]) (rest := []) ⟨hx, hb, hml, hown, hts⟩ (c_M_keep l D dT _ mm wd lf rt tc ty F sz Wk (cs (.pow y (vty v8))) dg dc sh hM hW j (vty v8) hj (by rw [← ebs]; simp only [List.length_append, List.length_cons, List.length_nil, size4_len]; omega)) ⟨callB_of 2 hts (gI gd_up gd_c q647) rfl rfl rfl (ht _ q10) (ht _ q644) hd_M_keep ⟨Nat.le_of_ble_eq_true rfl, Nat.le_of_ble_eq_true rfl⟩, ht _ q646, ht _ qs25⟩ (z_preV hK (va_recv hK.1 hM.1 (ci := 10) (q0 := 0) rfl rfl)) rfl rfl hl.1 rfl (lv_room (Nat.le_of_ble_eq_true rfl)) d_M_part_339 ⟨Nat.le_refl _, Nat.le_refl _⟩) hS (fun _ h9 => h9) (fun v165 H locs hv164 hz166 hf167 hS => ?_)
                rcases hv164 with ⟨hk1, rfl, hM⟩ | ⟨hk1, rfl, hM⟩
                · refine W.eq (g2 := F0 m 342 ls [.int (-2)]) rfl ?_
                  refine z_iretQ hx hb hr hlocks d_M_part_342 hS (Nat.le_refl _) (Nat.le_refl _) ?_
                  have eo := show o_part RV (nI j9) 1 = some (.pow y (vty v8)) from (by unfold o_part; rw [rgs_nI hj9, hV8, ec9]; try rfl)
                  rw [eo]
                  exact kO_done ⟨_, _, _, _, _, hW.1, Or.inl ⟨hk1, rfl, hM⟩⟩ hO hT hR hj ht8 ⟨rfl, rfl, hy9⟩
                · refine W.eq (g2 := F0 m 342 ls [.int (nI (cs (.pow y (vty v8))).length)]) rfl ?_
                  refine z_iretQ hx hb hr hlocks d_M_part_342 hS (Nat.le_refl _) (Nat.le_refl _) ?_
                  have eo := show o_part RV (nI j9) 1 = some (.pow y (vty v8)) from (by unfold o_part; rw [rgs_nI hj9, hV8, ec9]; try rfl)
                  rw [eo]
                  exact kO_done ⟨_, _, _, _, _, hW.1, Or.inr ⟨hk1, rfl, hM⟩⟩ hO hT hR hj ht8 ⟨rfl, rfl, hy9⟩
              · have nc146 : ((cs v8).length) = 5 := (nI_eq (a := ((cs v8).length)) (b := 5) (by omega) (by omega)).mp c146
                exact absurd nc146 (by omega)
            | pow c8 t8 =>
              exact absurd hc9.1 (by decide)
        · refine lv_iconst (v := (-1)) hx hb d_M_part_24 (by decide) ?_
          refine z_iretQ hx hb hr hlocks d_M_part_25 hS (Nat.le_refl _) (Nat.le_refl _) ?_
          have eo : o_part RV (nI j9) w = none := part_no (n01 (Or.inr (Int32.not_le.mp c13)))
          rw [eo]
          exact ⟨rfl, _, _, _, _, _, _, _, _, _, _, _, hM, hO, hT, hR, hWk⟩
  · rw [if_neg hq3] at hv1
    subst hv1
    refine lv_if_eq (tgt := 24) hx hb d_M_part_4 (by decide) (fun _ => ?_) (fun c168 => absurd c168 (by decide))
    refine lv_iconst (v := (-1)) hx hb d_M_part_24 (by decide) ?_
    refine z_iretQ hx hb hr hlocks d_M_part_25 hS (Nat.le_refl _) (Nat.le_refl _) ?_
    rw [kp_out hq3]
    exact ⟨rfl, _, _, _, _, _, _, _, _, _, _, _, hM, hO, hT, hR, hWk⟩
