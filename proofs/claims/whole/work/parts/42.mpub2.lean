abbrev b_M_compare : ByteArray := prog_12_method_68_code
abbrev y_M_compare : MethodName := ⟨"ValueTreesModel", "compare", "(II)I"⟩
abbrev w_M_compare : List Cond := .code y_M_compare b_M_compare 3 (Option.some .int) :: gt
theorem hd_M_compare : (y_M_compare).cls ≠ "java/lang/invoke/MethodHandle" ∧ (y_M_compare).cls ≠ "java/lang/invoke/VarHandle" ∧ (parseMethodDescriptor (y_M_compare).desc).map (fun d => d.parameters.length) = some 2 := by decide +kernel
theorem d_M_compare_0 : decode b_M_compare 0 = .ok (.aload_n 0, 1) := by decide +kernel
theorem d_M_compare_1 : decode b_M_compare 1 = .ok (.iload_n 1, 1) := by decide +kernel
theorem d_M_compare_2 : decode b_M_compare 2 = .ok (.invokevirtual 69, 3) := by decide +kernel
theorem d_M_compare_5 : decode b_M_compare 5 = .ok (.ifCond .eq 39, 3) := by decide +kernel
theorem d_M_compare_8 : decode b_M_compare 8 = .ok (.aload_n 0, 1) := by decide +kernel
theorem d_M_compare_9 : decode b_M_compare 9 = .ok (.iload_n 2, 1) := by decide +kernel
theorem d_M_compare_10 : decode b_M_compare 10 = .ok (.invokevirtual 69, 3) := by decide +kernel
theorem d_M_compare_13 : decode b_M_compare 13 = .ok (.ifCond .eq 31, 3) := by decide +kernel
theorem d_M_compare_16 : decode b_M_compare 16 = .ok (.aload_n 0, 1) := by decide +kernel
theorem d_M_compare_17 : decode b_M_compare 17 = .ok (.getfield 19, 3) := by decide +kernel
theorem d_M_compare_20 : decode b_M_compare 20 = .ok (.iload_n 1, 1) := by decide +kernel
theorem d_M_compare_21 : decode b_M_compare 21 = .ok (.iaload, 1) := by decide +kernel
theorem d_M_compare_22 : decode b_M_compare 22 = .ok (.aload_n 0, 1) := by decide +kernel
theorem d_M_compare_23 : decode b_M_compare 23 = .ok (.getfield 19, 3) := by decide +kernel
theorem d_M_compare_26 : decode b_M_compare 26 = .ok (.iload_n 2, 1) := by decide +kernel
theorem d_M_compare_27 : decode b_M_compare 27 = .ok (.iaload, 1) := by decide +kernel
theorem d_M_compare_28 : decode b_M_compare 28 = .ok (.if_icmp .ne 16, 3) := by decide +kernel
theorem d_M_compare_31 : decode b_M_compare 31 = .ok (.aload_n 0, 1) := by decide +kernel
theorem d_M_compare_32 : decode b_M_compare 32 = .ok (.aload_n 0, 1) := by decide +kernel
theorem d_M_compare_33 : decode b_M_compare 33 = .ok (.getfield 19, 3) := by decide +kernel
theorem d_M_compare_36 : decode b_M_compare 36 = .ok (.iload_n 1, 1) := by decide +kernel
theorem d_M_compare_37 : decode b_M_compare 37 = .ok (.iaload, 1) := by decide +kernel
theorem d_M_compare_38 : decode b_M_compare 38 = .ok (.invokevirtual 46, 3) := by decide +kernel
theorem d_M_compare_41 : decode b_M_compare 41 = .ok (.ifCond .ne 5, 3) := by decide +kernel
theorem d_M_compare_44 : decode b_M_compare 44 = .ok (.iconst 2, 1) := by decide +kernel
theorem d_M_compare_45 : decode b_M_compare 45 = .ok (.ireturn, 1) := by decide +kernel
theorem d_M_compare_46 : decode b_M_compare 46 = .ok (.aload_n 0, 1) := by decide +kernel
theorem d_M_compare_47 : decode b_M_compare 47 = .ok (.aload_n 0, 1) := by decide +kernel
theorem d_M_compare_48 : decode b_M_compare 48 = .ok (.getfield 19, 3) := by decide +kernel
theorem d_M_compare_51 : decode b_M_compare 51 = .ok (.iload_n 1, 1) := by decide +kernel
theorem d_M_compare_52 : decode b_M_compare 52 = .ok (.iaload, 1) := by decide +kernel
theorem d_M_compare_53 : decode b_M_compare 53 = .ok (.iload_n 1, 1) := by decide +kernel
theorem d_M_compare_54 : decode b_M_compare 54 = .ok (.invokestatic 112, 3) := by decide +kernel
theorem d_M_compare_57 : decode b_M_compare 57 = .ok (.iload_n 2, 1) := by decide +kernel
theorem d_M_compare_58 : decode b_M_compare 58 = .ok (.invokestatic 112, 3) := by decide +kernel
theorem d_M_compare_61 : decode b_M_compare 61 = .ok (.invokevirtual 149, 3) := by decide +kernel
theorem d_M_compare_64 : decode b_M_compare 64 = .ok (.ireturn, 1) := by decide +kernel
set_option maxHeartbeats 4000000 in
set_option maxRecDepth 100000 in
theorem p_M_compare (l : Launch) (D : va_G) (dT : Nat → ClassId) (H : Heap) (mm : Nat → Nat) (tb : Nat → TR) (tc : Nat) (RV : Nat → Option VT) (hI : mI D dT mm tb tc RV H) (a b : Int32) : Met l y_M_compare w_M_compare ({ frames := 205, cells := 0, slots := 0, locals := 5125 }) (z_P D dT [.ref (mm 0), .int a, .int b] H) (z_Q (mA mm) (fun v H1 => v = some (.int (a_compare tb RV a b)) ∧ mI D dT mm tb tc RV H1)) 0 0 (mA mm) := by
  obtain ⟨wd, lf, rt, ty, F, sz, Wk, wz, dg, dc, sh, hM, hO, hT, hR, hWk⟩ := hI
  have hF := hR.1
  have htc := hO.1
  have htc10 := hO.2.1
  refine Met.ofW (cc := b_M_compare) (maxL := 3) (ret := (Option.some .int)) (by decide) rfl ?_
  intro p e s m args below meth c s₁ B hml hv
  obtain ⟨rfl, rfl, hK⟩ := hv
  have hx := B.exec
  have hb := B.bytes
  have hr := B.returns
  have hts := atoms_spec (ws := w_M_compare) B.pre
  have ht : ∀ w9 ∈ gt, w9.before [.ref (mm 0), .int a, .int b].toArray s = true := fun w9 h => hts w9 (List.mem_cons_of_mem _ h)
  have hown : s.vm.findClass "ValueTreesModel" = some m.cls := findClass_of_methodNamed B.named
  have hlocks := B.notSynchronized
  have hS : va_S (mA mm) s.heap s.heap [] := va_S.rf
  have hl := lv_entry ([.ref (mm 0), .int a, .int b]) (n := 3) (Nat.le_of_ble_eq_true rfl)
  rw [lg_entry_eq]
  generalize (lg_sl ([.ref (mm 0), .int a, .int b]) ++ List.replicate (3 - (lg_sl ([.ref (mm 0), .int a, .int b])).length) Slot.unset).toArray = ls at hl ⊢
  have hl : lv_has ls 3 [(0, .ref (mm 0)), (1, .int a), (2, .int b)] := hl
  refine lv_aload_n hx hb d_M_compare_0 rfl (lv_at hl 0 rfl) ?_
  refine lv_iload_n hx hb d_M_compare_1 rfl (lv_at hl 1 rfl) ?_
  refine z_callR (va_runV (C := "ValueTreesModel") (As := [.int a]) (rest := []) ⟨hx, hb, hml, hown, hts⟩ (c_M_hasValue l D dT _ mm wd lf rt tc ty F sz Wk wz dg dc sh hM tb hO hT RV hR a) ⟨callB_of 1 hts (gI gd_up gd_c q662) rfl rfl rfl (ht _ q10) (ht _ q659) hd_M_hasValue ⟨Nat.le_of_ble_eq_true rfl, Nat.le_of_ble_eq_true rfl⟩, ht _ q661, ht _ qs27⟩ (z_preV hK (va_recv hK.1 hM.1 (ci := 10) (q0 := 0) rfl rfl)) rfl rfl hl.1 rfl (lv_room (Nat.le_of_ble_eq_true rfl)) d_M_compare_2 ⟨Nat.zero_le _, Nat.zero_le _⟩) (fun v2 hv1 => ?_)
  have hv1 : v2 = .int (if (rgs RV a).isSome = true then 1 else 0) := hv1
  cases hr3 : rgs RV a with
  | none =>
    rw [hr3] at hv1
    subst hv1
    try dsimp only
    refine W.eq (g2 := F0 m 5 ls [.int 0]) rfl ?_
    refine lv_if_eq (tgt := 44) hx hb d_M_compare_5 (by decide) (fun _ => ?_) (fun c6 => absurd c6 (by decide))
    refine lv_iconst (v := 2) hx hb d_M_compare_44 (by decide) ?_
    exact z_iretQ hx hb hr hlocks d_M_compare_45 hS (Nat.le_refl _) (Nat.le_refl _) ⟨by unfold a_compare; rw [hr3], _, _, _, _, _, _, _, _, _, _, _, hM, hO, hT, hR, hWk⟩
  | some v4 =>
    rw [hr3] at hv1
    subst hv1
    refine W.eq (g2 := F0 m 5 ls [.int 1]) rfl ?_
    obtain ⟨j5, hj5, rfl, hV4⟩ := rgs_some hr3
    obtain ⟨ht4, et4, hw4, es4, hn4, hf4⟩ := mR_some hR hj5 hV4
    refine lv_if_eq (tgt := 44) hx hb d_M_compare_5 (by decide) (fun c7 => absurd c7 (by decide)) (fun _ => ?_)
    refine lv_aload_n hx hb d_M_compare_8 rfl (lv_at hl 0 rfl) ?_
    refine lv_iload_n hx hb d_M_compare_9 rfl (lv_at hl 2 rfl) ?_
    refine z_callR (va_runV (C := "ValueTreesModel") (As := [.int b]) (rest := []) ⟨hx, hb, hml, hown, hts⟩ (c_M_hasValue l D dT _ mm wd lf rt tc ty F sz Wk wz dg dc sh hM tb hO hT RV hR b) ⟨callB_of 1 hts (gI gd_up gd_c q662) rfl rfl rfl (ht _ q10) (ht _ q659) hd_M_hasValue ⟨Nat.le_of_ble_eq_true rfl, Nat.le_of_ble_eq_true rfl⟩, ht _ q661, ht _ qs27⟩ (z_preV hK (va_recv hK.1 hM.1 (ci := 10) (q0 := 0) rfl rfl)) rfl rfl hl.1 rfl (lv_room (Nat.le_of_ble_eq_true rfl)) d_M_compare_10 ⟨Nat.zero_le _, Nat.zero_le _⟩) (fun v9 hv8 => ?_)
    have hv8 : v9 = .int (if (rgs RV b).isSome = true then 1 else 0) := hv8
    cases hr10 : rgs RV b with
    | none =>
      rw [hr10] at hv8
      subst hv8
      try dsimp only
      refine W.eq (g2 := F0 m 13 ls [.int 0]) rfl ?_
      refine lv_if_eq (tgt := 44) hx hb d_M_compare_13 (by decide) (fun _ => ?_) (fun c13 => absurd c13 (by decide))
      refine lv_iconst (v := 2) hx hb d_M_compare_44 (by decide) ?_
      exact z_iretQ hx hb hr hlocks d_M_compare_45 hS (Nat.le_refl _) (Nat.le_refl _) ⟨by unfold a_compare; rw [hr3, hr10], _, _, _, _, _, _, _, _, _, _, _, hM, hO, hT, hR, hWk⟩
    | some v11 =>
      rw [hr10] at hv8
      subst hv8
      refine W.eq (g2 := F0 m 13 ls [.int 1]) rfl ?_
      obtain ⟨j12, hj12, rfl, hV11⟩ := rgs_some hr10
      obtain ⟨ht11, et11, hw11, es11, hn11, hf11⟩ := mR_some hR hj12 hV11
      refine lv_if_eq (tgt := 44) hx hb d_M_compare_13 (by decide) (fun c14 => absurd c14 (by decide)) (fun _ => ?_)
      refine lv_aload_n hx hb d_M_compare_16 rfl (lv_at hl 0 rfl) ?_
      refine va_get (D := D) (ci := 10) (v := .ref (mm 4)) (C := "ValueTreesModel") (T := T_M) (N := 12) hx hb ht in_M hown hK.1 hM.1 0 rfl rfl 4 (by decide) (ht _ q543) (fun _ h9 => h9) rfl d_M_compare_17 ?_
      refine lv_iload_n hx hb d_M_compare_20 rfl (lv_at hl 1 rfl) ?_
      refine z_iald hx hb hK (hM.1 4 _ rfl) j5 rfl (by omega) (by decide) d_M_compare_21 ?_
      rw [et4]
      refine lv_aload_n hx hb d_M_compare_22 rfl (lv_at hl 0 rfl) ?_
      refine va_get (D := D) (ci := 10) (v := .ref (mm 4)) (C := "ValueTreesModel") (T := T_M) (N := 12) hx hb ht in_M hown hK.1 hM.1 0 rfl rfl 4 (by decide) (ht _ q543) (fun _ h9 => h9) rfl d_M_compare_23 ?_
      refine lv_iload_n hx hb d_M_compare_26 rfl (lv_at hl 2 rfl) ?_
      refine z_iald hx hb hK (hM.1 4 _ rfl) j12 rfl (by omega) (by decide) d_M_compare_27 ?_
      rw [et11]
      refine lv_icmp_ne (tgt := 44) hx hb d_M_compare_28 (by decide) (fun c15 => ?_) (fun c15 => ?_)
      · have nc15 : ¬ (vty v4) = (vty v11) := fun h9 => c15 ((nI_eq (a := (vty v4)) (b := (vty v11)) (by omega) (by omega)).mpr h9)
        refine lv_iconst (v := 2) hx hb d_M_compare_44 (by decide) ?_
        exact z_iretQ hx hb hr hlocks d_M_compare_45 hS (Nat.le_refl _) (Nat.le_refl _) ⟨by unfold a_compare; rw [hr3, hr10]; dsimp only; rw [if_neg (fun h9 => nc15 h9.1)], _, _, _, _, _, _, _, _, _, _, _, hM, hO, hT, hR, hWk⟩
      · have nc15 : (vty v4) = (vty v11) := (nI_eq (a := (vty v4)) (b := (vty v11)) (by omega) (by omega)).mp c15
        refine lv_aload_n hx hb d_M_compare_31 rfl (lv_at hl 0 rfl) ?_
        refine lv_aload_n hx hb d_M_compare_32 rfl (lv_at hl 0 rfl) ?_
        refine va_get (D := D) (ci := 10) (v := .ref (mm 4)) (C := "ValueTreesModel") (T := T_M) (N := 12) hx hb ht in_M hown hK.1 hM.1 0 rfl rfl 4 (by decide) (ht _ q543) (fun _ h9 => h9) rfl d_M_compare_33 ?_
        refine lv_iload_n hx hb d_M_compare_36 rfl (lv_at hl 1 rfl) ?_
        refine z_iald hx hb hK (hM.1 4 _ rfl) j5 rfl (by omega) (by decide) d_M_compare_37 ?_
        rw [et4]
        refine z_callR (va_runV (C := "ValueTreesModel") (As := [.int (nI (vty v4))]) (rest := []) ⟨hx, hb, hml, hown, hts⟩ (c_M_isComparable l D dT _ mm wd lf rt tc ty F sz Wk wz dg dc sh hM tb hO hT 200 (vty v4) (by omega) (hO.2.2 _ (by omega)).2.2.2.2.2.2.2.2.1) ⟨callB_of 1 hts (gI gd_up gd_c q588) rfl rfl rfl (ht _ q10) (ht _ q585) hd_M_isComparable ⟨Nat.le_of_ble_eq_true rfl, Nat.le_of_ble_eq_true rfl⟩, ht _ q587, ht _ qs14⟩ (z_preV hK (va_recv hK.1 hM.1 (ci := 10) (q0 := 0) rfl rfl)) rfl rfl hl.1 rfl (lv_room (Nat.le_of_ble_eq_true rfl)) d_M_compare_38 ⟨Nat.zero_le _, Nat.zero_le _⟩) (fun v17 hv16 => ?_)
        have hv16 : v17 = .int (if tC (tb (vty v4)) = true then 1 else 0) := hv16
        cases hq18 : tC (tb (vty v4)) with
        | false =>
          rw [hq18, if_neg (by decide)] at hv16
          subst hv16
          refine lv_if_ne (tgt := 46) hx hb d_M_compare_41 (by decide) (fun c19 => absurd c19 (by decide)) (fun _ => ?_)
          refine lv_iconst (v := 2) hx hb d_M_compare_44 (by decide) ?_
          exact z_iretQ hx hb hr hlocks d_M_compare_45 hS (Nat.le_refl _) (Nat.le_refl _) ⟨by unfold a_compare; rw [hr3, hr10]; dsimp only; rw [if_neg (fun h9 => by have h8 := h9.2; rw [hq18] at h8; cases h8)], _, _, _, _, _, _, _, _, _, _, _, hM, hO, hT, hR, hWk⟩
        | true =>
          rw [hq18, if_pos rfl] at hv16
          subst hv16
          refine lv_if_ne (tgt := 46) hx hb d_M_compare_41 (by decide) (fun _ => ?_) (fun c20 => absurd c20 (by decide))
          have hw11 : wty tb v11 0 (vty v4) := by rw [nc15]; exact hw11
          have hpa := (hO.2.2 _ ht4).2.2.2.2.2.2.2.2.1
          refine lv_aload_n hx hb d_M_compare_46 rfl (lv_at hl 0 rfl) ?_
          refine lv_aload_n hx hb d_M_compare_47 rfl (lv_at hl 0 rfl) ?_
          refine va_get (D := D) (ci := 10) (v := .ref (mm 4)) (C := "ValueTreesModel") (T := T_M) (N := 12) hx hb ht in_M hown hK.1 hM.1 0 rfl rfl 4 (by decide) (ht _ q543) (fun _ h9 => h9) rfl d_M_compare_48 ?_
          refine lv_iload_n hx hb d_M_compare_51 rfl (lv_at hl 1 rfl) ?_
          refine z_iald hx hb hK (hM.1 4 _ rfl) j5 rfl (by omega) (by decide) d_M_compare_52 ?_
          rw [et4]
          refine lv_iload_n hx hb d_M_compare_53 rfl (lv_at hl 1 rfl) ?_
          refine z_callR (va_runS (As := [.int (nI j5)]) (rest := [.int (nI (vty v4)), .ref (mm 0)]) ⟨hx, hb, hml, hown, hts⟩ (c_M_base l D dT _ (nI j5)) ⟨callB_of 1 hts (gI gd_up gd_c q650) rfl rfl rfl (ht _ q10) (ht _ q648) hd_M_base ⟨Nat.le_of_ble_eq_true rfl, Nat.le_of_ble_eq_true rfl⟩, ht _ q649⟩ (z_preS hK) rfl rfl hl.1 rfl (lv_room (Nat.le_of_ble_eq_true rfl)) d_M_compare_54 ⟨Nat.zero_le _, Nat.zero_le _⟩) (fun v22 hv21 => ?_)
          subst hv21
          rw [show (160 * nI j5 : Int32) = nI (160 * j5) from pk_mul 160 j5]
          refine lv_iload_n hx hb d_M_compare_57 rfl (lv_at hl 2 rfl) ?_
          refine z_callR (va_runS (As := [.int (nI j12)]) (rest := [.int (nI (160 * j5)), .int (nI (vty v4)), .ref (mm 0)]) ⟨hx, hb, hml, hown, hts⟩ (c_M_base l D dT _ (nI j12)) ⟨callB_of 1 hts (gI gd_up gd_c q650) rfl rfl rfl (ht _ q10) (ht _ q648) hd_M_base ⟨Nat.le_of_ble_eq_true rfl, Nat.le_of_ble_eq_true rfl⟩, ht _ q649⟩ (z_preS hK) rfl rfl hl.1 rfl (lv_room (Nat.le_of_ble_eq_true rfl)) d_M_compare_58 ⟨Nat.zero_le _, Nat.zero_le _⟩) (fun v24 hv23 => ?_)
          subst hv23
          rw [show (160 * nI j12 : Int32) = nI (160 * j12) from pk_mul 160 j12]
          refine z_callQ (va_runV (C := "ValueTreesModel") (As := [.int (nI (vty v4)), .int (nI (160 * j5)), .int (nI (160 * j12))]) (rest := []) ⟨hx, hb, hml, hown, hts⟩ (c_M_order l D dT s.heap mm wd lf rt tc ty F sz Wk wz hF tb hO hT 200 _ dg dc sh (vty v4) v4 v11 (160 * j5) (160 * j12) hM (by omega) hpa hq18 hw4 hw11 hf4 hf11 (by omega) (by omega)) ⟨callB_of 3 hts (gI gd_up gd_c q739) rfl rfl rfl (ht _ q10) (ht _ q736) hd_M_order ⟨Nat.le_of_ble_eq_true rfl, Nat.le_of_ble_eq_true rfl⟩, ht _ q738, ht _ qs38⟩ (z_preV hK (va_recv hK.1 hM.1 (ci := 10) (q0 := 0) rfl rfl)) rfl rfl hl.1 rfl (lv_room (Nat.le_of_ble_eq_true rfl)) d_M_compare_61 ⟨Nat.le_refl _, Nat.le_refl _⟩) hS (fun _ h9 => h9) (fun v26 H locs hv25 hz27 hf28 hS => ?_)
          obtain ⟨rfl, dg, dc, sh, hM⟩ := hv25
          refine W.eq (g2 := F0 m 64 ls [.int (vo v4 v11)]) rfl ?_
          exact z_iretQ hx hb hr hlocks d_M_compare_64 hS (Nat.le_refl _) (Nat.le_refl _) ⟨by unfold a_compare; rw [hr3, hr10]; dsimp only; rw [if_pos ⟨nc15, hq18⟩], _, _, _, _, _, _, _, _, _, _, _, hM, hO, hT, hR, hWk⟩
abbrev b_M_digit : ByteArray := prog_12_method_59_code
abbrev y_M_digit : MethodName := ⟨"ValueTreesModel", "digit", "(II)I"⟩
abbrev w_M_digit : List Cond := .code y_M_digit b_M_digit 4 (Option.some .int) :: gt
theorem hd_M_digit : (y_M_digit).cls ≠ "java/lang/invoke/MethodHandle" ∧ (y_M_digit).cls ≠ "java/lang/invoke/VarHandle" ∧ (parseMethodDescriptor (y_M_digit).desc).map (fun d => d.parameters.length) = some 2 := by decide +kernel
theorem d_M_digit_0 : decode b_M_digit 0 = .ok (.aload_n 0, 1) := by decide +kernel
theorem d_M_digit_1 : decode b_M_digit 1 = .ok (.iload_n 1, 1) := by decide +kernel
theorem d_M_digit_2 : decode b_M_digit 2 = .ok (.invokevirtual 124, 3) := by decide +kernel
theorem d_M_digit_5 : decode b_M_digit 5 = .ok (.invokestatic 75, 3) := by decide +kernel
theorem d_M_digit_8 : decode b_M_digit 8 = .ok (.ifCond .eq 7, 3) := by decide +kernel
theorem d_M_digit_11 : decode b_M_digit 11 = .ok (.iload_n 2, 1) := by decide +kernel
theorem d_M_digit_12 : decode b_M_digit 12 = .ok (.ifCond .ge 5, 3) := by decide +kernel
theorem d_M_digit_15 : decode b_M_digit 15 = .ok (.iconst (-1), 1) := by decide +kernel
theorem d_M_digit_16 : decode b_M_digit 16 = .ok (.ireturn, 1) := by decide +kernel
theorem d_M_digit_17 : decode b_M_digit 17 = .ok (.aload_n 0, 1) := by decide +kernel
theorem d_M_digit_18 : decode b_M_digit 18 = .ok (.iload_n 1, 1) := by decide +kernel
theorem d_M_digit_19 : decode b_M_digit 19 = .ok (.invokestatic 112, 3) := by decide +kernel
theorem d_M_digit_22 : decode b_M_digit 22 = .ok (.invokevirtual 127, 3) := by decide +kernel
theorem d_M_digit_25 : decode b_M_digit 25 = .ok (.istore_n 3, 1) := by decide +kernel
theorem d_M_digit_26 : decode b_M_digit 26 = .ok (.aload_n 0, 1) := by decide +kernel
theorem d_M_digit_27 : decode b_M_digit 27 = .ok (.iload_n 2, 1) := by decide +kernel
theorem d_M_digit_28 : decode b_M_digit 28 = .ok (.invokevirtual 88, 3) := by decide +kernel
theorem d_M_digit_31 : decode b_M_digit 31 = .ok (.ireturn, 1) := by decide +kernel
set_option maxHeartbeats 4000000 in
set_option maxRecDepth 100000 in
theorem p_M_digit (l : Launch) (D : va_G) (dT : Nat → ClassId) (H : Heap) (mm : Nat → Nat) (tb : Nat → TR) (tc : Nat) (RV : Nat → Option VT) (hI : mI D dT mm tb tc RV H) (r i : Int32) : Met l y_M_digit w_M_digit ({ frames := 3, cells := 0, slots := 0, locals := 62 }) (z_P D dT [.ref (mm 0), .int r, .int i] H) (z_Q (mA mm) (fun v H1 => v = some (.int (a_digit RV r i)) ∧ mI D dT mm tb tc RV H1)) 0 0 (mA mm) := by
  obtain ⟨wd, lf, rt, ty, F, sz, Wk, wz, dg, dc, sh, hM, hO, hT, hR, hWk⟩ := hI
  have hF := hR.1
  have htc := hO.1
  have htc10 := hO.2.1
  refine Met.ofW (cc := b_M_digit) (maxL := 4) (ret := (Option.some .int)) (by decide) rfl ?_
  intro p e s m args below meth c s₁ B hml hv
  obtain ⟨rfl, rfl, hK⟩ := hv
  have hx := B.exec
  have hb := B.bytes
  have hr := B.returns
  have hts := atoms_spec (ws := w_M_digit) B.pre
  have ht : ∀ w9 ∈ gt, w9.before [.ref (mm 0), .int r, .int i].toArray s = true := fun w9 h => hts w9 (List.mem_cons_of_mem _ h)
  have hown : s.vm.findClass "ValueTreesModel" = some m.cls := findClass_of_methodNamed B.named
  have hlocks := B.notSynchronized
  have hS : va_S (mA mm) s.heap s.heap [] := va_S.rf
  have hl := lv_entry ([.ref (mm 0), .int r, .int i]) (n := 4) (Nat.le_of_ble_eq_true rfl)
  rw [lg_entry_eq]
  generalize (lg_sl ([.ref (mm 0), .int r, .int i]) ++ List.replicate (4 - (lg_sl ([.ref (mm 0), .int r, .int i])).length) Slot.unset).toArray = ls at hl ⊢
  have hl : lv_has ls 4 [(0, .ref (mm 0)), (1, .int r), (2, .int i)] := hl
  refine lv_aload_n hx hb d_M_digit_0 rfl (lv_at hl 0 rfl) ?_
  refine lv_iload_n hx hb d_M_digit_1 rfl (lv_at hl 1 rfl) ?_
  refine z_callR (va_runV (C := "ValueTreesModel") (As := [.int r]) (rest := []) ⟨hx, hb, hml, hown, hts⟩ (c_M_wordOf l D dT _ mm wd lf rt tc ty F sz Wk wz dg dc sh hM tb hO hT RV hR r) ⟨callB_of 1 hts (gI gd_up gd_c q658) rfl rfl rfl (ht _ q10) (ht _ q655) hd_M_wordOf ⟨Nat.le_of_ble_eq_true rfl, Nat.le_of_ble_eq_true rfl⟩, ht _ q657, ht _ qs26⟩ (z_preV hK (va_recv hK.1 hM.1 (ci := 10) (q0 := 0) rfl rfl)) rfl rfl hl.1 rfl (lv_room (Nat.le_of_ble_eq_true rfl)) d_M_digit_2 ⟨Nat.zero_le _, Nat.zero_le _⟩) (fun v2 hv1 => ?_)
  have hv1 : v2 = .int (match rgs RV r with | none => -1 | some v => nI (tW (tb (vty v)))) := hv1
  cases hr3 : rgs RV r with
  | none =>
    rw [hr3] at hv1
    subst hv1
    try dsimp only
    refine W.eq (g2 := F0 m 5 ls [.int (-1)]) rfl ?_
    refine z_callR (va_runS (As := [.int (-1)]) (rest := []) ⟨hx, hb, hml, hown, hts⟩ (c_M_isNumber l D dT _ (-1)) ⟨callB_of 1 hts (gI gd_up gd_c q622) rfl rfl rfl (ht _ q10) (ht _ q620) hd_M_isNumber ⟨Nat.le_of_ble_eq_true rfl, Nat.le_of_ble_eq_true rfl⟩, ht _ q621⟩ (z_preS hK) rfl rfl hl.1 rfl (lv_room (Nat.le_of_ble_eq_true rfl)) d_M_digit_5 ⟨Nat.zero_le _, Nat.zero_le _⟩) (fun v7 hv6 => ?_)
    have hv6 : v7 = .int (if isNum (-1) then 1 else 0) := hv6
    rw [if_neg (by decide)] at hv6
    subst hv6
    refine lv_if_eq (tgt := 15) hx hb d_M_digit_8 (by decide) (fun _ => ?_) (fun c9 => absurd c9 (by decide))
    refine lv_iconst (v := (-1)) hx hb d_M_digit_15 (by decide) ?_
    exact z_iretQ hx hb hr hlocks d_M_digit_16 hS (Nat.le_refl _) (Nat.le_refl _) ⟨by unfold a_digit; rw [rb_none hr3], _, _, _, _, _, _, _, _, _, _, _, hM, hO, hT, hR, hWk⟩
  | some v4 =>
    rw [hr3] at hv1
    subst hv1
    refine W.eq (g2 := F0 m 5 ls [.int (nI (tW (tb (vty v4))))]) rfl ?_
    obtain ⟨j5, hj5, rfl, hV4⟩ := rgs_some hr3
    obtain ⟨ht4, et4, hw4, es4, hn4, hf4⟩ := mR_some hR hj5 hV4
    refine z_callR (va_runS (As := [.int (nI (tW (tb (vty v4))))]) (rest := []) ⟨hx, hb, hml, hown, hts⟩ (c_M_isNumber l D dT _ (nI (tW (tb (vty v4))))) ⟨callB_of 1 hts (gI gd_up gd_c q622) rfl rfl rfl (ht _ q10) (ht _ q620) hd_M_isNumber ⟨Nat.le_of_ble_eq_true rfl, Nat.le_of_ble_eq_true rfl⟩, ht _ q621⟩ (z_preS hK) rfl rfl hl.1 rfl (lv_room (Nat.le_of_ble_eq_true rfl)) d_M_digit_5 ⟨Nat.zero_le _, Nat.zero_le _⟩) (fun v11 hv10 => ?_)
    have hv10 : v11 = .int (if isNum (nI (tW (tb (vty v4)))) then 1 else 0) := hv10
    rcases Classical.em (isNum (nI (tW (tb (vty v4))))) with hq12 | hq12
    · rw [if_pos hq12] at hv10
      subst hv10
      refine lv_if_eq (tgt := 15) hx hb d_M_digit_8 (by decide) (fun c13 => absurd c13 (by decide)) (fun _ => ?_)
      obtain ⟨z, ev, hz9⟩ := num_of hw4 ((isNum_nI (by have := (hO.2.2 _ ht4).1; omega)).mp hq12)
      have hfz : F (160 * j5) = 0 ∧ fAt F (160 * j5 + 1) (nser z) := by have h9 := hf4; rw [ev] at h9; exact f_num.mp h9
      have hlz : 1 + (nser z).length ≤ 160 := by have h9 := hn4; rw [ev, l_num] at h9; exact h9
      refine lv_iload_n hx hb d_M_digit_11 rfl (lv_at hl 2 rfl) ?_
      refine lv_if_ge (tgt := 17) hx hb d_M_digit_12 (by decide) (fun c14 => ?_) (fun c14 => ?_)
      · obtain ⟨q, hq9, rfl⟩ := nI_of (Int32.not_lt.mpr c14)
        refine lv_aload_n hx hb d_M_digit_17 rfl (lv_at hl 0 rfl) ?_
        refine lv_iload_n hx hb d_M_digit_18 rfl (lv_at hl 1 rfl) ?_
        refine z_callR (va_runS (As := [.int (nI j5)]) (rest := [.ref (mm 0)]) ⟨hx, hb, hml, hown, hts⟩ (c_M_base l D dT _ (nI j5)) ⟨callB_of 1 hts (gI gd_up gd_c q650) rfl rfl rfl (ht _ q10) (ht _ q648) hd_M_base ⟨Nat.le_of_ble_eq_true rfl, Nat.le_of_ble_eq_true rfl⟩, ht _ q649⟩ (z_preS hK) rfl rfl hl.1 rfl (lv_room (Nat.le_of_ble_eq_true rfl)) d_M_digit_19 ⟨Nat.zero_le _, Nat.zero_le _⟩) (fun v16 hv15 => ?_)
        subst hv15
        rw [show (160 * nI j5 : Int32) = nI (160 * j5) from pk_mul 160 j5]
        refine z_callQ (va_runV (C := "ValueTreesModel") (As := [.int (nI (160 * j5))]) (rest := []) ⟨hx, hb, hml, hown, hts⟩ (c_M_load l D dT _ mm wd lf rt tc ty F sz Wk wz dg dc sh hM hF (160 * j5) z hz9 hfz.2 (by omega)) ⟨callB_of 1 hts (gI gd_up gd_c q666) rfl rfl rfl (ht _ q10) (ht _ q663) hd_M_load ⟨Nat.le_of_ble_eq_true rfl, Nat.le_of_ble_eq_true rfl⟩, ht _ q665, ht _ qs28⟩ (z_preV hK (va_recv hK.1 hM.1 (ci := 10) (q0 := 0) rfl rfl)) rfl rfl hl.1 rfl (lv_room (Nat.le_of_ble_eq_true rfl)) d_M_digit_22 ⟨Nat.le_refl _, Nat.le_refl _⟩) hS (fun _ h9 => h9) (fun v18 H locs hv17 hz19 hf20 hS => ?_)
        obtain ⟨rfl, dg, dc, hdx, hdcx, hvx, htrx, hM⟩ := hv17
        refine W.eq (g2 := F0 m 25 ls [.int (if z < 0 then 1 else 0)]) rfl ?_
        refine lv_istore_n (lv' := [(3, .int (if z < 0 then 1 else 0)), (0, .ref (mm 0)), (1, .int (nI j5)), (2, .int (nI q))]) hx hb d_M_digit_25 rfl hl (by decide) rfl (fun ls hl => ?_)
        refine lv_aload_n hx hb d_M_digit_26 rfl (lv_at hl 1 rfl) ?_
        refine lv_iload_n hx hb d_M_digit_27 rfl (lv_at hl 3 rfl) ?_
        refine z_callR (va_runV (C := "ValueTreesModel") (As := [.int (nI q)]) (rest := []) ⟨hx, hb, hml, hown, hts⟩ (c_M_digitAt l D dT _ mm wd lf rt tc ty F sz Wk wz dg dc sh hM q (by omega) hdcx) ⟨callB_of 1 hts (gI gd_up gd_c q643) rfl rfl rfl (ht _ q10) (ht _ q640) hd_M_digitAt ⟨Nat.le_of_ble_eq_true rfl, Nat.le_of_ble_eq_true rfl⟩, ht _ q642, ht _ qs24⟩ (z_preV hK (va_recv hK.1 hM.1 (ci := 10) (q0 := 0) rfl rfl)) rfl rfl hl.1 rfl (lv_room (Nat.le_of_ble_eq_true rfl)) d_M_digit_28 ⟨Nat.zero_le _, Nat.zero_le _⟩) (fun v22 hv21 => ?_)
        obtain ⟨g23, hg23⟩ : ∃ y, y = (if q < dc then dg q else 0) := ⟨_, rfl⟩
        have hv21 : v22 = .int (nI g23) := by rw [hg23]; exact hv21
        subst hv21
        exact z_iretQ hx hb hr hlocks d_M_digit_31 hS (Nat.le_refl _) (Nat.le_refl _) ⟨by unfold a_digit; rw [rb_some hr3, num_ev ev]; dsimp only; rw [if_neg (nI_pos (by omega)), nI_clamp (by omega), ← hvx, ← digit_of hdx, hg23], _, _, _, _, _, _, _, _, _, _, _, hM, hO, hT, hR, hWk⟩
      · refine lv_iconst (v := (-1)) hx hb d_M_digit_15 (by decide) ?_
        exact z_iretQ hx hb hr hlocks d_M_digit_16 hS (Nat.le_refl _) (Nat.le_refl _) ⟨by unfold a_digit; rw [rb_some hr3, num_ev ev]; dsimp only; rw [if_pos (Int32.not_le.mp c14)], _, _, _, _, _, _, _, _, _, _, _, hM, hO, hT, hR, hWk⟩
    · rw [if_neg hq12] at hv10
      subst hv10
      refine lv_if_eq (tgt := 15) hx hb d_M_digit_8 (by decide) (fun _ => ?_) (fun c24 => absurd c24 (by decide))
      refine lv_iconst (v := (-1)) hx hb d_M_digit_15 (by decide) ?_
      exact z_iretQ hx hb hr hlocks d_M_digit_16 hS (Nat.le_refl _) (Nat.le_refl _) ⟨by unfold a_digit; rw [rb_some hr3, num_no hw4 (fun h9 => hq12 ((isNum_nI (by have := (hO.2.2 _ ht4).1; omega)).mpr h9))], _, _, _, _, _, _, _, _, _, _, _, hM, hO, hT, hR, hWk⟩
abbrev b_M_isBelow : ByteArray := prog_12_method_60_code
abbrev y_M_isBelow : MethodName := ⟨"ValueTreesModel", "isBelow", "(I)Z"⟩
abbrev w_M_isBelow : List Cond := .code y_M_isBelow b_M_isBelow 2 (Option.some .boolean) :: gt
theorem hd_M_isBelow : (y_M_isBelow).cls ≠ "java/lang/invoke/MethodHandle" ∧ (y_M_isBelow).cls ≠ "java/lang/invoke/VarHandle" ∧ (parseMethodDescriptor (y_M_isBelow).desc).map (fun d => d.parameters.length) = some 1 := by decide +kernel
theorem d_M_isBelow_0 : decode b_M_isBelow 0 = .ok (.aload_n 0, 1) := by decide +kernel
theorem d_M_isBelow_1 : decode b_M_isBelow 1 = .ok (.iload_n 1, 1) := by decide +kernel
theorem d_M_isBelow_2 : decode b_M_isBelow 2 = .ok (.invokevirtual 124, 3) := by decide +kernel
theorem d_M_isBelow_5 : decode b_M_isBelow 5 = .ok (.invokestatic 75, 3) := by decide +kernel
theorem d_M_isBelow_8 : decode b_M_isBelow 8 = .ok (.ifCond .eq 18, 3) := by decide +kernel
theorem d_M_isBelow_11 : decode b_M_isBelow 11 = .ok (.aload_n 0, 1) := by decide +kernel
theorem d_M_isBelow_12 : decode b_M_isBelow 12 = .ok (.iload_n 1, 1) := by decide +kernel
theorem d_M_isBelow_13 : decode b_M_isBelow 13 = .ok (.invokestatic 112, 3) := by decide +kernel
theorem d_M_isBelow_16 : decode b_M_isBelow 16 = .ok (.invokevirtual 127, 3) := by decide +kernel
theorem d_M_isBelow_19 : decode b_M_isBelow 19 = .ok (.ifCond .eq 7, 3) := by decide +kernel
theorem d_M_isBelow_22 : decode b_M_isBelow 22 = .ok (.iconst 1, 1) := by decide +kernel
theorem d_M_isBelow_23 : decode b_M_isBelow 23 = .ok (.goto 4, 3) := by decide +kernel
theorem d_M_isBelow_26 : decode b_M_isBelow 26 = .ok (.iconst 0, 1) := by decide +kernel
theorem d_M_isBelow_27 : decode b_M_isBelow 27 = .ok (.ireturn, 1) := by decide +kernel
set_option maxHeartbeats 4000000 in
set_option maxRecDepth 100000 in
theorem p_M_isBelow (l : Launch) (D : va_G) (dT : Nat → ClassId) (H : Heap) (mm : Nat → Nat) (tb : Nat → TR) (tc : Nat) (RV : Nat → Option VT) (hI : mI D dT mm tb tc RV H) (r : Int32) : Met l y_M_isBelow w_M_isBelow ({ frames := 3, cells := 0, slots := 0, locals := 62 }) (z_P D dT [.ref (mm 0), .int r] H) (z_Q (mA mm) (fun v H1 => v = some (.int (a_below RV r)) ∧ mI D dT mm tb tc RV H1)) 0 0 (mA mm) := by
  obtain ⟨wd, lf, rt, ty, F, sz, Wk, wz, dg, dc, sh, hM, hO, hT, hR, hWk⟩ := hI
  have hF := hR.1
  have htc := hO.1
  have htc10 := hO.2.1
  refine Met.ofW (cc := b_M_isBelow) (maxL := 2) (ret := (Option.some .boolean)) (by decide) rfl ?_
  intro p e s m args below meth c s₁ B hml hv
  obtain ⟨rfl, rfl, hK⟩ := hv
  have hx := B.exec
  have hb := B.bytes
  have hr := B.returns
  have hts := atoms_spec (ws := w_M_isBelow) B.pre
  have ht : ∀ w9 ∈ gt, w9.before [.ref (mm 0), .int r].toArray s = true := fun w9 h => hts w9 (List.mem_cons_of_mem _ h)
  have hown : s.vm.findClass "ValueTreesModel" = some m.cls := findClass_of_methodNamed B.named
  have hlocks := B.notSynchronized
  have hS : va_S (mA mm) s.heap s.heap [] := va_S.rf
  have hl := lv_entry ([.ref (mm 0), .int r]) (n := 2) (Nat.le_of_ble_eq_true rfl)
  rw [lg_entry_eq]
  generalize (lg_sl ([.ref (mm 0), .int r]) ++ List.replicate (2 - (lg_sl ([.ref (mm 0), .int r])).length) Slot.unset).toArray = ls at hl ⊢
  have hl : lv_has ls 2 [(0, .ref (mm 0)), (1, .int r)] := hl
  refine lv_aload_n hx hb d_M_isBelow_0 rfl (lv_at hl 0 rfl) ?_
  refine lv_iload_n hx hb d_M_isBelow_1 rfl (lv_at hl 1 rfl) ?_
  refine z_callR (va_runV (C := "ValueTreesModel") (As := [.int r]) (rest := []) ⟨hx, hb, hml, hown, hts⟩ (c_M_wordOf l D dT _ mm wd lf rt tc ty F sz Wk wz dg dc sh hM tb hO hT RV hR r) ⟨callB_of 1 hts (gI gd_up gd_c q658) rfl rfl rfl (ht _ q10) (ht _ q655) hd_M_wordOf ⟨Nat.le_of_ble_eq_true rfl, Nat.le_of_ble_eq_true rfl⟩, ht _ q657, ht _ qs26⟩ (z_preV hK (va_recv hK.1 hM.1 (ci := 10) (q0 := 0) rfl rfl)) rfl rfl hl.1 rfl (lv_room (Nat.le_of_ble_eq_true rfl)) d_M_isBelow_2 ⟨Nat.zero_le _, Nat.zero_le _⟩) (fun v2 hv1 => ?_)
  have hv1 : v2 = .int (match rgs RV r with | none => -1 | some v => nI (tW (tb (vty v)))) := hv1
  cases hr3 : rgs RV r with
  | none =>
    rw [hr3] at hv1
    subst hv1
    try dsimp only
    refine W.eq (g2 := F0 m 5 ls [.int (-1)]) rfl ?_
    refine z_callR (va_runS (As := [.int (-1)]) (rest := []) ⟨hx, hb, hml, hown, hts⟩ (c_M_isNumber l D dT _ (-1)) ⟨callB_of 1 hts (gI gd_up gd_c q622) rfl rfl rfl (ht _ q10) (ht _ q620) hd_M_isNumber ⟨Nat.le_of_ble_eq_true rfl, Nat.le_of_ble_eq_true rfl⟩, ht _ q621⟩ (z_preS hK) rfl rfl hl.1 rfl (lv_room (Nat.le_of_ble_eq_true rfl)) d_M_isBelow_5 ⟨Nat.zero_le _, Nat.zero_le _⟩) (fun v7 hv6 => ?_)
    have hv6 : v7 = .int (if isNum (-1) then 1 else 0) := hv6
    rw [if_neg (by decide)] at hv6
    subst hv6
    refine lv_if_eq (tgt := 26) hx hb d_M_isBelow_8 (by decide) (fun _ => ?_) (fun c9 => absurd c9 (by decide))
    refine lv_iconst (v := 0) hx hb d_M_isBelow_26 (by decide) ?_
    exact z_zretQ hx hb hr hlocks d_M_isBelow_27 rfl hS (Nat.le_refl _) (Nat.le_refl _) ⟨by unfold a_below; rw [rb_none hr3], _, _, _, _, _, _, _, _, _, _, _, hM, hO, hT, hR, hWk⟩
  | some v4 =>
    rw [hr3] at hv1
    subst hv1
    refine W.eq (g2 := F0 m 5 ls [.int (nI (tW (tb (vty v4))))]) rfl ?_
    obtain ⟨j5, hj5, rfl, hV4⟩ := rgs_some hr3
    obtain ⟨ht4, et4, hw4, es4, hn4, hf4⟩ := mR_some hR hj5 hV4
    refine z_callR (va_runS (As := [.int (nI (tW (tb (vty v4))))]) (rest := []) ⟨hx, hb, hml, hown, hts⟩ (c_M_isNumber l D dT _ (nI (tW (tb (vty v4))))) ⟨callB_of 1 hts (gI gd_up gd_c q622) rfl rfl rfl (ht _ q10) (ht _ q620) hd_M_isNumber ⟨Nat.le_of_ble_eq_true rfl, Nat.le_of_ble_eq_true rfl⟩, ht _ q621⟩ (z_preS hK) rfl rfl hl.1 rfl (lv_room (Nat.le_of_ble_eq_true rfl)) d_M_isBelow_5 ⟨Nat.zero_le _, Nat.zero_le _⟩) (fun v11 hv10 => ?_)
    have hv10 : v11 = .int (if isNum (nI (tW (tb (vty v4)))) then 1 else 0) := hv10
    rcases Classical.em (isNum (nI (tW (tb (vty v4))))) with hq12 | hq12
    · rw [if_pos hq12] at hv10
      subst hv10
      refine lv_if_eq (tgt := 26) hx hb d_M_isBelow_8 (by decide) (fun c13 => absurd c13 (by decide)) (fun _ => ?_)
      obtain ⟨z, ev, hz9⟩ := num_of hw4 ((isNum_nI (by have := (hO.2.2 _ ht4).1; omega)).mp hq12)
      have hfz : F (160 * j5) = 0 ∧ fAt F (160 * j5 + 1) (nser z) := by have h9 := hf4; rw [ev] at h9; exact f_num.mp h9
      have hlz : 1 + (nser z).length ≤ 160 := by have h9 := hn4; rw [ev, l_num] at h9; exact h9
      refine lv_aload_n hx hb d_M_isBelow_11 rfl (lv_at hl 0 rfl) ?_
      refine lv_iload_n hx hb d_M_isBelow_12 rfl (lv_at hl 1 rfl) ?_
      refine z_callR (va_runS (As := [.int (nI j5)]) (rest := [.ref (mm 0)]) ⟨hx, hb, hml, hown, hts⟩ (c_M_base l D dT _ (nI j5)) ⟨callB_of 1 hts (gI gd_up gd_c q650) rfl rfl rfl (ht _ q10) (ht _ q648) hd_M_base ⟨Nat.le_of_ble_eq_true rfl, Nat.le_of_ble_eq_true rfl⟩, ht _ q649⟩ (z_preS hK) rfl rfl hl.1 rfl (lv_room (Nat.le_of_ble_eq_true rfl)) d_M_isBelow_13 ⟨Nat.zero_le _, Nat.zero_le _⟩) (fun v15 hv14 => ?_)
      subst hv14
      rw [show (160 * nI j5 : Int32) = nI (160 * j5) from pk_mul 160 j5]
      refine z_callQ (va_runV (C := "ValueTreesModel") (As := [.int (nI (160 * j5))]) (rest := []) ⟨hx, hb, hml, hown, hts⟩ (c_M_load l D dT _ mm wd lf rt tc ty F sz Wk wz dg dc sh hM hF (160 * j5) z hz9 hfz.2 (by omega)) ⟨callB_of 1 hts (gI gd_up gd_c q666) rfl rfl rfl (ht _ q10) (ht _ q663) hd_M_load ⟨Nat.le_of_ble_eq_true rfl, Nat.le_of_ble_eq_true rfl⟩, ht _ q665, ht _ qs28⟩ (z_preV hK (va_recv hK.1 hM.1 (ci := 10) (q0 := 0) rfl rfl)) rfl rfl hl.1 rfl (lv_room (Nat.le_of_ble_eq_true rfl)) d_M_isBelow_16 ⟨Nat.le_refl _, Nat.le_refl _⟩) hS (fun _ h9 => h9) (fun v17 H locs hv16 hz18 hf19 hS => ?_)
      obtain ⟨rfl, dg, dc, hdx, hdcx, hvx, htrx, hM⟩ := hv16
      refine W.eq (g2 := F0 m 19 ls [.int (if z < 0 then 1 else 0)]) rfl ?_
      rcases Classical.em (z < 0) with hzx | hzx
      · rw [if_pos hzx]
        refine lv_if_eq (tgt := 26) hx hb d_M_isBelow_19 (by decide) (fun c20 => absurd c20 (by decide)) (fun _ => ?_)
        refine lv_iconst (v := 1) hx hb d_M_isBelow_22 (by decide) ?_
        refine lv_goto (tgt := 27) hx hb d_M_isBelow_23 (by decide) ?_
        exact z_zretQ hx hb hr hlocks d_M_isBelow_27 rfl hS (Nat.le_refl _) (Nat.le_refl _) ⟨by unfold a_below; rw [rb_some hr3, num_ev ev]; dsimp only; rw [if_pos hzx], _, _, _, _, _, _, _, _, _, _, _, hM, hO, hT, hR, hWk⟩
      · rw [if_neg hzx]
        refine lv_if_eq (tgt := 26) hx hb d_M_isBelow_19 (by decide) (fun _ => ?_) (fun c21 => absurd c21 (by decide))
        refine lv_iconst (v := 0) hx hb d_M_isBelow_26 (by decide) ?_
        exact z_zretQ hx hb hr hlocks d_M_isBelow_27 rfl hS (Nat.le_refl _) (Nat.le_refl _) ⟨by unfold a_below; rw [rb_some hr3, num_ev ev]; dsimp only; rw [if_neg hzx], _, _, _, _, _, _, _, _, _, _, _, hM, hO, hT, hR, hWk⟩
    · rw [if_neg hq12] at hv10
      subst hv10
      refine lv_if_eq (tgt := 26) hx hb d_M_isBelow_8 (by decide) (fun _ => ?_) (fun c22 => absurd c22 (by decide))
      refine lv_iconst (v := 0) hx hb d_M_isBelow_26 (by decide) ?_
      exact z_zretQ hx hb hr hlocks d_M_isBelow_27 rfl hS (Nat.le_refl _) (Nat.le_refl _) ⟨by unfold a_below; rw [rb_some hr3, num_no hw4 (fun h9 => hq12 ((isNum_nI (by have := (hO.2.2 _ ht4).1; omega)).mpr h9))], _, _, _, _, _, _, _, _, _, _, _, hM, hO, hT, hR, hWk⟩
abbrev b_M_byteAt : ByteArray := prog_12_method_61_code
abbrev y_M_byteAt : MethodName := ⟨"ValueTreesModel", "byteAt", "(II)I"⟩
abbrev w_M_byteAt : List Cond := .code y_M_byteAt b_M_byteAt 3 (Option.some .int) :: gt
theorem hd_M_byteAt : (y_M_byteAt).cls ≠ "java/lang/invoke/MethodHandle" ∧ (y_M_byteAt).cls ≠ "java/lang/invoke/VarHandle" ∧ (parseMethodDescriptor (y_M_byteAt).desc).map (fun d => d.parameters.length) = some 2 := by decide +kernel
theorem d_M_byteAt_0 : decode b_M_byteAt 0 = .ok (.aload_n 0, 1) := by decide +kernel
theorem d_M_byteAt_1 : decode b_M_byteAt 1 = .ok (.iload_n 1, 1) := by decide +kernel
theorem d_M_byteAt_2 : decode b_M_byteAt 2 = .ok (.invokevirtual 124, 3) := by decide +kernel
theorem d_M_byteAt_5 : decode b_M_byteAt 5 = .ok (.invokestatic 174, 3) := by decide +kernel
theorem d_M_byteAt_8 : decode b_M_byteAt 8 = .ok (.ifCond .eq 34, 3) := by decide +kernel
theorem d_M_byteAt_11 : decode b_M_byteAt 11 = .ok (.iload_n 2, 1) := by decide +kernel
theorem d_M_byteAt_12 : decode b_M_byteAt 12 = .ok (.ifCond .lt 30, 3) := by decide +kernel
theorem d_M_byteAt_15 : decode b_M_byteAt 15 = .ok (.iload_n 2, 1) := by decide +kernel
theorem d_M_byteAt_16 : decode b_M_byteAt 16 = .ok (.aload_n 0, 1) := by decide +kernel
theorem d_M_byteAt_17 : decode b_M_byteAt 17 = .ok (.getfield 26, 3) := by decide +kernel
theorem d_M_byteAt_20 : decode b_M_byteAt 20 = .ok (.iload_n 1, 1) := by decide +kernel
theorem d_M_byteAt_21 : decode b_M_byteAt 21 = .ok (.iaload, 1) := by decide +kernel
theorem d_M_byteAt_22 : decode b_M_byteAt 22 = .ok (.iconst 5, 1) := by decide +kernel
theorem d_M_byteAt_23 : decode b_M_byteAt 23 = .ok (.isub, 1) := by decide +kernel
theorem d_M_byteAt_24 : decode b_M_byteAt 24 = .ok (.if_icmp .ge 18, 3) := by decide +kernel
theorem d_M_byteAt_27 : decode b_M_byteAt 27 = .ok (.aload_n 0, 1) := by decide +kernel
theorem d_M_byteAt_28 : decode b_M_byteAt 28 = .ok (.iload_n 1, 1) := by decide +kernel
theorem d_M_byteAt_29 : decode b_M_byteAt 29 = .ok (.invokestatic 112, 3) := by decide +kernel
theorem d_M_byteAt_32 : decode b_M_byteAt 32 = .ok (.iconst 5, 1) := by decide +kernel
theorem d_M_byteAt_33 : decode b_M_byteAt 33 = .ok (.iadd, 1) := by decide +kernel
theorem d_M_byteAt_34 : decode b_M_byteAt 34 = .ok (.iload_n 2, 1) := by decide +kernel
theorem d_M_byteAt_35 : decode b_M_byteAt 35 = .ok (.iadd, 1) := by decide +kernel
theorem d_M_byteAt_36 : decode b_M_byteAt 36 = .ok (.invokevirtual 72, 3) := by decide +kernel
theorem d_M_byteAt_39 : decode b_M_byteAt 39 = .ok (.goto 4, 3) := by decide +kernel
theorem d_M_byteAt_42 : decode b_M_byteAt 42 = .ok (.iconst (-1), 1) := by decide +kernel
theorem d_M_byteAt_43 : decode b_M_byteAt 43 = .ok (.ireturn, 1) := by decide +kernel
set_option maxHeartbeats 4000000 in
set_option maxRecDepth 100000 in
theorem p_M_byteAt (l : Launch) (D : va_G) (dT : Nat → ClassId) (H : Heap) (mm : Nat → Nat) (tb : Nat → TR) (tc : Nat) (RV : Nat → Option VT) (hI : mI D dT mm tb tc RV H) (r i : Int32) : Met l y_M_byteAt w_M_byteAt ({ frames := 3, cells := 0, slots := 0, locals := 62 }) (z_P D dT [.ref (mm 0), .int r, .int i] H) (z_Q (mA mm) (fun v H1 => v = some (.int (a_byteAt RV r i)) ∧ mI D dT mm tb tc RV H1)) 0 0 (mA mm) := by
  obtain ⟨wd, lf, rt, ty, F, sz, Wk, wz, dg, dc, sh, hM, hO, hT, hR, hWk⟩ := hI
  have hF := hR.1
  have htc := hO.1
  have htc10 := hO.2.1
  refine Met.ofW (cc := b_M_byteAt) (maxL := 3) (ret := (Option.some .int)) (by decide) rfl ?_
  intro p e s m args below meth c s₁ B hml hv
  obtain ⟨rfl, rfl, hK⟩ := hv
  have hx := B.exec
  have hb := B.bytes
  have hr := B.returns
  have hts := atoms_spec (ws := w_M_byteAt) B.pre
  have ht : ∀ w9 ∈ gt, w9.before [.ref (mm 0), .int r, .int i].toArray s = true := fun w9 h => hts w9 (List.mem_cons_of_mem _ h)
  have hown : s.vm.findClass "ValueTreesModel" = some m.cls := findClass_of_methodNamed B.named
  have hlocks := B.notSynchronized
  have hS : va_S (mA mm) s.heap s.heap [] := va_S.rf
  have hl := lv_entry ([.ref (mm 0), .int r, .int i]) (n := 3) (Nat.le_of_ble_eq_true rfl)
  rw [lg_entry_eq]
  generalize (lg_sl ([.ref (mm 0), .int r, .int i]) ++ List.replicate (3 - (lg_sl ([.ref (mm 0), .int r, .int i])).length) Slot.unset).toArray = ls at hl ⊢
  have hl : lv_has ls 3 [(0, .ref (mm 0)), (1, .int r), (2, .int i)] := hl
  refine lv_aload_n hx hb d_M_byteAt_0 rfl (lv_at hl 0 rfl) ?_
  refine lv_iload_n hx hb d_M_byteAt_1 rfl (lv_at hl 1 rfl) ?_
  refine z_callR (va_runV (C := "ValueTreesModel") (As := [.int r]) (rest := []) ⟨hx, hb, hml, hown, hts⟩ (c_M_wordOf l D dT _ mm wd lf rt tc ty F sz Wk wz dg dc sh hM tb hO hT RV hR r) ⟨callB_of 1 hts (gI gd_up gd_c q658) rfl rfl rfl (ht _ q10) (ht _ q655) hd_M_wordOf ⟨Nat.le_of_ble_eq_true rfl, Nat.le_of_ble_eq_true rfl⟩, ht _ q657, ht _ qs26⟩ (z_preV hK (va_recv hK.1 hM.1 (ci := 10) (q0 := 0) rfl rfl)) rfl rfl hl.1 rfl (lv_room (Nat.le_of_ble_eq_true rfl)) d_M_byteAt_2 ⟨Nat.zero_le _, Nat.zero_le _⟩) (fun v2 hv1 => ?_)
  have hv1 : v2 = .int (match rgs RV r with | none => -1 | some v => nI (tW (tb (vty v)))) := hv1
  cases hr3 : rgs RV r with
  | none =>
    rw [hr3] at hv1
    subst hv1
    try dsimp only
    refine W.eq (g2 := F0 m 5 ls [.int (-1)]) rfl ?_
    refine z_callR (va_runS (As := [.int (-1)]) (rest := []) ⟨hx, hb, hml, hown, hts⟩ (c_M_isRow l D dT _ (-1)) ⟨callB_of 1 hts (gI gd_up gd_c q750) rfl rfl rfl (ht _ q10) (ht _ q748) hd_M_isRow ⟨Nat.le_of_ble_eq_true rfl, Nat.le_of_ble_eq_true rfl⟩, ht _ q749⟩ (z_preS hK) rfl rfl hl.1 rfl (lv_room (Nat.le_of_ble_eq_true rfl)) d_M_byteAt_5 ⟨Nat.zero_le _, Nat.zero_le _⟩) (fun v7 hv6 => ?_)
    have hv6 : v7 = .int (if isRw (-1) then 1 else 0) := hv6
    rw [if_neg (by decide)] at hv6
    subst hv6
    refine lv_if_eq (tgt := 42) hx hb d_M_byteAt_8 (by decide) (fun _ => ?_) (fun c9 => absurd c9 (by decide))
    refine lv_iconst (v := (-1)) hx hb d_M_byteAt_42 (by decide) ?_
    exact z_iretQ hx hb hr hlocks d_M_byteAt_43 hS (Nat.le_refl _) (Nat.le_refl _) ⟨by unfold a_byteAt; rw [rb_none hr3], _, _, _, _, _, _, _, _, _, _, _, hM, hO, hT, hR, hWk⟩
  | some v4 =>
    rw [hr3] at hv1
    subst hv1
    refine W.eq (g2 := F0 m 5 ls [.int (nI (tW (tb (vty v4))))]) rfl ?_
    obtain ⟨j5, hj5, rfl, hV4⟩ := rgs_some hr3
    obtain ⟨ht4, et4, hw4, es4, hn4, hf4⟩ := mR_some hR hj5 hV4
    refine z_callR (va_runS (As := [.int (nI (tW (tb (vty v4))))]) (rest := []) ⟨hx, hb, hml, hown, hts⟩ (c_M_isRow l D dT _ (nI (tW (tb (vty v4))))) ⟨callB_of 1 hts (gI gd_up gd_c q750) rfl rfl rfl (ht _ q10) (ht _ q748) hd_M_isRow ⟨Nat.le_of_ble_eq_true rfl, Nat.le_of_ble_eq_true rfl⟩, ht _ q749⟩ (z_preS hK) rfl rfl hl.1 rfl (lv_room (Nat.le_of_ble_eq_true rfl)) d_M_byteAt_5 ⟨Nat.zero_le _, Nat.zero_le _⟩) (fun v11 hv10 => ?_)
    have hv10 : v11 = .int (if isRw (nI (tW (tb (vty v4)))) then 1 else 0) := hv10
    rcases Classical.em (isRw (nI (tW (tb (vty v4))))) with hq12 | hq12
    · rw [if_pos hq12] at hv10
      subst hv10
      refine lv_if_eq (tgt := 42) hx hb d_M_byteAt_8 (by decide) (fun c13 => absurd c13 (by decide)) (fun _ => ?_)
      obtain ⟨cr, ev, hk8⟩ := row_of hw4 ((isRw_nI (by have := (hO.2.2 _ ht4).1; omega)).mp hq12)
      have hfz := hf4
      rw [ev, f_row] at hfz
      have hlz : (cs v4).length = 5 + cr % 16 := by rw [ev, l_row]
      have hlr := rser_len cr
      refine lv_iload_n hx hb d_M_byteAt_11 rfl (lv_at hl 2 rfl) ?_
      refine lv_if_lt (tgt := 42) hx hb d_M_byteAt_12 (by decide) (fun c14 => ?_) (fun c14 => ?_)
      · refine lv_iconst (v := (-1)) hx hb d_M_byteAt_42 (by decide) ?_
        exact z_iretQ hx hb hr hlocks d_M_byteAt_43 hS (Nat.le_refl _) (Nat.le_refl _) ⟨by unfold a_byteAt; rw [rb_some hr3, row_ev ev]; dsimp only; rw [if_neg (fun h9 => Int32.not_lt.mpr h9.1 c14)], _, _, _, _, _, _, _, _, _, _, _, hM, hO, hT, hR, hWk⟩
      · obtain ⟨q, hq9, rfl⟩ := nI_of c14
        refine lv_iload_n hx hb d_M_byteAt_15 rfl (lv_at hl 2 rfl) ?_
        refine lv_aload_n hx hb d_M_byteAt_16 rfl (lv_at hl 0 rfl) ?_
        refine va_get (D := D) (ci := 10) (v := .ref (mm 6)) (C := "ValueTreesModel") (T := T_M) (N := 12) hx hb ht in_M hown hK.1 hM.1 0 rfl rfl 6 (by decide) (ht _ q545) (fun _ h9 => h9) rfl d_M_byteAt_17 ?_
        refine lv_iload_n hx hb d_M_byteAt_20 rfl (lv_at hl 1 rfl) ?_
        refine z_iald hx hb hK (hM.1 6 _ rfl) j5 rfl (by omega) (by decide) d_M_byteAt_21 ?_
        rw [es4]
        refine lv_iconst (v := 5) hx hb d_M_byteAt_22 (by decide) ?_
        refine lv_isub hx hb d_M_byteAt_23 ?_
        rw [show (((nI (cs v4).length) - 5) : Int32) = nI (((cs v4).length) - 5) from pk_sub (a := ((cs v4).length)) (b := 5) (by omega)]
        refine lv_icmp_ge (tgt := 42) hx hb d_M_byteAt_24 (by decide) (fun c15 => ?_) (fun c15 => ?_)
        · have nc15 : (((cs v4).length) - 5) ≤ q := (nI_leI (a := (((cs v4).length) - 5)) (b := q) (by omega) (by omega)).mp c15
          refine lv_iconst (v := (-1)) hx hb d_M_byteAt_42 (by decide) ?_
          exact z_iretQ hx hb hr hlocks d_M_byteAt_43 hS (Nat.le_refl _) (Nat.le_refl _) ⟨by unfold a_byteAt; rw [rb_some hr3, row_ev ev]; dsimp only; rw [if_neg (fun h9 => absurd ((nI_ltI (by omega) (by omega)).mp h9.2) (by omega))], _, _, _, _, _, _, _, _, _, _, _, hM, hO, hT, hR, hWk⟩
        · have nc15 : ¬ (((cs v4).length) - 5) ≤ q := fun h9 => c15 ((nI_leI (a := (((cs v4).length) - 5)) (b := q) (by omega) (by omega)).mpr h9)
          have hfq := hfz.2.2 q (by omega)
          refine lv_aload_n hx hb d_M_byteAt_27 rfl (lv_at hl 0 rfl) ?_
          refine lv_iload_n hx hb d_M_byteAt_28 rfl (lv_at hl 1 rfl) ?_
          refine z_callR (va_runS (As := [.int (nI j5)]) (rest := [.ref (mm 0)]) ⟨hx, hb, hml, hown, hts⟩ (c_M_base l D dT _ (nI j5)) ⟨callB_of 1 hts (gI gd_up gd_c q650) rfl rfl rfl (ht _ q10) (ht _ q648) hd_M_base ⟨Nat.le_of_ble_eq_true rfl, Nat.le_of_ble_eq_true rfl⟩, ht _ q649⟩ (z_preS hK) rfl rfl hl.1 rfl (lv_room (Nat.le_of_ble_eq_true rfl)) d_M_byteAt_29 ⟨Nat.zero_le _, Nat.zero_le _⟩) (fun v17 hv16 => ?_)
          subst hv16
          rw [show (160 * nI j5 : Int32) = nI (160 * j5) from pk_mul 160 j5]
          refine lv_iconst (v := 5) hx hb d_M_byteAt_32 (by decide) ?_
          refine lv_iadd hx hb d_M_byteAt_33 ?_
          rw [show (((nI (160 * j5)) + 5) : Int32) = nI ((160 * j5) + 5) from nI_add (160 * j5) 5]
          refine lv_iload_n hx hb d_M_byteAt_34 rfl (lv_at hl 2 rfl) ?_
          refine lv_iadd hx hb d_M_byteAt_35 ?_
          rw [show (((nI ((160 * j5) + 5)) + (nI q)) : Int32) = nI (((160 * j5) + 5) + q) from nI_add ((160 * j5) + 5) q]
          refine z_callR (va_runV (C := "ValueTreesModel") (As := [.int (nI (((160 * j5) + 5) + q))]) (rest := []) ⟨hx, hb, hml, hown, hts⟩ (c_M_byteOf l D dT _ mm wd lf rt tc ty F sz Wk wz dg dc sh hM (((160 * j5) + 5) + q) (by omega) (hF _)) ⟨callB_of 1 hts (gI gd_up gd_c q670) rfl rfl rfl (ht _ q10) (ht _ q667) hd_M_byteOf ⟨Nat.le_of_ble_eq_true rfl, Nat.le_of_ble_eq_true rfl⟩, ht _ q669, ht _ qs29⟩ (z_preV hK (va_recv hK.1 hM.1 (ci := 10) (q0 := 0) rfl rfl)) rfl rfl hl.1 rfl (lv_room (Nat.le_of_ble_eq_true rfl)) d_M_byteAt_36 ⟨Nat.zero_le _, Nat.zero_le _⟩) (fun v19 hv18 => ?_)
          subst hv18
          refine lv_goto (tgt := 43) hx hb d_M_byteAt_39 (by decide) ?_
          exact z_iretQ hx hb hr hlocks d_M_byteAt_43 hS (Nat.le_refl _) (Nat.le_refl _) ⟨by unfold a_byteAt; rw [rb_some hr3, row_ev ev]; dsimp only; rw [if_pos ⟨nI_pos' (by omega), (nI_ltI (by omega) (by omega)).mpr (by omega)⟩, nI_clamp (by omega), hfq], _, _, _, _, _, _, _, _, _, _, _, hM, hO, hT, hR, hWk⟩
    · rw [if_neg hq12] at hv10
      subst hv10
      refine lv_if_eq (tgt := 42) hx hb d_M_byteAt_8 (by decide) (fun _ => ?_) (fun c20 => absurd c20 (by decide))
      refine lv_iconst (v := (-1)) hx hb d_M_byteAt_42 (by decide) ?_
      exact z_iretQ hx hb hr hlocks d_M_byteAt_43 hS (Nat.le_refl _) (Nat.le_refl _) ⟨by unfold a_byteAt; rw [rb_some hr3, row_no hw4 (fun h9 => hq12 ((isRw_nI (by have := (hO.2.2 _ ht4).1; omega)).mpr h9))], _, _, _, _, _, _, _, _, _, _, _, hM, hO, hT, hR, hWk⟩
