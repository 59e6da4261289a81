abbrev b_M_compare : ByteArray := prog_12_method_68_code
abbrev y_M_compare : MethodName := ⟨"ValueTreesModel", "compare", "(II)I"⟩
abbrev w_M_compare : List Cond := .code y_M_compare b_M_compare 3 (Option.some .int) :: gt
theorem hd_M_compare : (y_M_compare).cls ≠ "java/lang/invoke/MethodHandle" ∧ (y_M_compare).cls ≠ "java/lang/invoke/VarHandle" ∧ (parseMethodDescriptor (y_M_compare).desc).map (fun d => d.parameters.length) = some 2 := by decide +kernel
theorem d_M_compare_0 : decode b_M_compare 0 = .ok (.aload_n 0, 1) := by decide +kernel
theorem d_M_compare_1 : decode b_M_compare 1 = .ok (.iload_n 1, 1) := by decide +kernel
theorem d_M_compare_2 : decode b_M_compare 2 = .ok (.invokevirtual 69, 3) := by decide +kernel
theorem d_M_compare_5 : decode b_M_compare 5 = .ok (.ifCond .eq 39, 3) := by decide +kernel
theorem d_M_compare_8 : decode b_M_compare 8 = .ok (.aload_n 0, 1) := by decide +kernel
theorem d_M_compare_9 : decode b_M_compare 9 = .ok (.iload_n 2, 1) := by decide +kernel
theorem d_M_compare_10 : decode b_M_compare 10 = .ok (.invokevirtual 69, 3) := by decide +kernel
theorem d_M_compare_13 : decode b_M_compare 13 = .ok (.ifCond .eq 31, 3) := by decide +kernel
theorem d_M_compare_16 : decode b_M_compare 16 = .ok (.aload_n 0, 1) := by decide +kernel
theorem d_M_compare_17 : decode b_M_compare 17 = .ok (.getfield 19, 3) := by decide +kernel
theorem d_M_compare_20 : decode b_M_compare 20 = .ok (.iload_n 1, 1) := by decide +kernel
theorem d_M_compare_21 : decode b_M_compare 21 = .ok (.iaload, 1) := by decide +kernel
theorem d_M_compare_22 : decode b_M_compare 22 = .ok (.aload_n 0, 1) := by decide +kernel
theorem d_M_compare_23 : decode b_M_compare 23 = .ok (.getfield 19, 3) := by decide +kernel
theorem d_M_compare_26 : decode b_M_compare 26 = .ok (.iload_n 2, 1) := by decide +kernel
theorem d_M_compare_27 : decode b_M_compare 27 = .ok (.iaload, 1) := by decide +kernel
theorem d_M_compare_28 : decode b_M_compare 28 = .ok (.if_icmp .ne 16, 3) := by decide +kernel
theorem d_M_compare_31 : decode b_M_compare 31 = .ok (.aload_n 0, 1) := by decide +kernel
theorem d_M_compare_32 : decode b_M_compare 32 = .ok (.aload_n 0, 1) := by decide +kernel
theorem d_M_compare_33 : decode b_M_compare 33 = .ok (.getfield 19, 3) := by decide +kernel
theorem d_M_compare_36 : decode b_M_compare 36 = .ok (.iload_n 1, 1) := by decide +kernel
theorem d_M_compare_37 : decode b_M_compare 37 = .ok (.iaload, 1) := by decide +kernel
theorem d_M_compare_38 : decode b_M_compare 38 = .ok (.invokevirtual 46, 3) := by decide +kernel
theorem d_M_compare_41 : decode b_M_compare 41 = .ok (.ifCond .ne 5, 3) := by decide +kernel
theorem d_M_compare_44 : decode b_M_compare 44 = .ok (.iconst 2, 1) := by decide +kernel
theorem d_M_compare_45 : decode b_M_compare 45 = .ok (.ireturn, 1) := by decide +kernel
theorem d_M_compare_46 : decode b_M_compare 46 = .ok (.aload_n 0, 1) := by decide +kernel
theorem d_M_compare_47 : decode b_M_compare 47 = .ok (.aload_n 0, 1) := by decide +kernel
theorem d_M_compare_48 : decode b_M_compare 48 = .ok (.getfield 19, 3) := by decide +kernel
theorem d_M_compare_51 : decode b_M_compare 51 = .ok (.iload_n 1, 1) := by decide +kernel
theorem d_M_compare_52 : decode b_M_compare 52 = .ok (.iaload, 1) := by decide +kernel
theorem d_M_compare_53 : decode b_M_compare 53 = .ok (.iload_n 1, 1) := by decide +kernel
theorem d_M_compare_54 : decode b_M_compare 54 = .ok (.invokestatic 112, 3) := by decide +kernel
theorem d_M_compare_57 : decode b_M_compare 57 = .ok (.iload_n 2, 1) := by decide +kernel
theorem d_M_compare_58 : decode b_M_compare 58 = .ok (.invokestatic 112, 3) := by decide +kernel
theorem d_M_compare_61 : decode b_M_compare 61 = .ok (.invokevirtual 149, 3) := by decide +kernel
theorem d_M_compare_64 : decode b_M_compare 64 = .ok (.ireturn, 1) := by decide +kernel
set_option maxHeartbeats 4000000 in
set_option maxRecDepth 100000 in
theorem p_M_compare (l : Launch) (D : va_G) (dT : Nat → ClassId) (H : Heap) (mm : Nat → Nat) (tb : Nat → TR) (tc : Nat) (RV : Nat → Option VT) (hI : mI D dT mm tb tc RV H) (a b : Int32) : Met l y_M_compare w_M_compare ({ frames := 205, cells := 0, slots := 0, locals := 5125 }) (z_P D dT [.ref (mm 0), .int a, .int b] H) (z_Q (mA mm) (fun v H1 => v = some (.int (a_compare tb RV a b)) ∧ mI D dT mm tb tc RV H1)) 0 0 (mA mm) := by
  obtain ⟨wd, lf, rt, ty, F, sz, Wk, wz, dg, dc, sh, hM, hO, hT, hR, hWk⟩ := hI
  have hF := hR.1
  have htc := hO.1
  have htc10 := hO.2.1
  refine Met.ofW (cc := b_M_compare) (maxL := 3) (ret := (Option.some .int)) (by decide) rfl ?_
  intro p e s m args below meth c s₁ B hml hv
  obtain ⟨rfl, rfl, hK⟩ := hv
  have hx := B.exec
  have hb := B.bytes
  have hr := B.returns
  have hts := atoms_spec (ws := w_M_compare) B.pre
  have ht : ∀ w9 ∈ gt, w9.before [.ref (mm 0), .int a, .int b].toArray s = true := fun w9 h => hts w9 (List.mem_cons_of_mem _ h)
  have hown : s.vm.findClass "ValueTreesModel" = some m.cls := findClass_of_methodNamed B.named
  have hlocks := B.notSynchronized
  have hS : va_S (mA mm) s.heap s.heap [] := va_S.rf
  have hl := lv_entry ([.ref (mm 0), .int a, .int b]) (n := 3) (Nat.le_of_ble_eq_true rfl)
  rw [lg_entry_eq]
  generalize (lg_sl ([.ref (mm 0), .int a, .int b]) ++ List.replicate (3 - (lg_sl ([.ref (mm 0), .int a, .int b])).length) Slot.unset).toArray = ls at hl ⊢
  have hl : lv_has ls 3 [(0, .ref (mm 0)), (1, .int a), (2, .int b)] := hl
  refine lv_aload_n hx hb d_M_compare_0 rfl (lv_at hl 0 rfl) ?_
  refine lv_iload_n hx hb d_M_compare_1 rfl (lv_at hl 1 rfl) ?_
  refine z_callR (va_runV (C := "ValueTreesModel") (As := [.int a]) (rest := []) ⟨hx, hb, hml, hown, hts⟩ (c_M_hasValue l D dT _ mm wd lf rt tc ty F sz Wk wz dg dc sh hM tb hO hT RV hR a) ⟨callB_of 1 hts (gI gd_up gd_c q662) rfl rfl rfl (ht _ q10) (ht _ q659) hd_M_hasValue ⟨Nat.le_of_ble_eq_true rfl, Nat.le_of_ble_eq_true rfl⟩, ht _ q661, ht _ qs27⟩ (z_preV hK (va_recv hK.1 hM.1 (ci := 10) (q0 := 0) rfl rfl)) rfl rfl hl.1 rfl (lv_room (Nat.le_of_ble_eq_true rfl)) d_M_compare_2 ⟨Nat.zero_le _, Nat.zero_le _⟩) (fun v2 hv1 => ?_)
  have hv1 : v2 = .int (if (rgs RV a).isSome = true then 1 else 0) := hv1
  cases hr3 : rgs RV a with
  | none =>
    rw [hr3] at hv1
    subst hv1
    try dsimp only
    refine W.eq (g2 := F0 m 5 ls [.int 0]) rfl ?_
    refine lv_if_eq (tgt := 44) hx hb d_M_compare_5 (by decide) (fun _ => ?_) (fun c6 => absurd c6 (by decide))
    refine lv_iconst (v := 2) hx hb d_M_compare_44 (by decide) ?_
    exact z_iretQ hx hb hr hlocks d_M_compare_45 hS (Nat.le_refl _) (Nat.le_refl _) ⟨by unfold a_compare; rw [hr3], _, _, _, _, _, _, _, _, _, _, _, hM, hO, hT, hR, hWk⟩
  | some v4 =>
    rw [hr3] at hv1
    subst hv1
    refine W.eq (g2 := F0 m 5 ls [.int 1]) rfl ?_
    obtain ⟨j5, hj5, rfl, hV4⟩ := rgs_some hr3
    obtain ⟨ht4, et4, hw4, es4, hn4, hf4⟩ := mR_some hR hj5 hV4
    refine lv_if_eq (tgt := 44) hx hb d_M_compare_5 (by decide) (fun c7 => absurd c7 (by decide)) (fun _ => ?_)
    refine lv_aload_n hx hb d_M_compare_8 rfl (lv_at hl 0 rfl) ?_
    refine lv_iload_n hx hb d_M_compare_9 rfl (lv_at hl 2 rfl) ?_
    refine z_callR (va_runV (C := "ValueTreesModel") (As := [.int b]) (rest := []) ⟨hx, hb, hml, hown, hts⟩ (c_M_hasValue l D dT _ mm wd lf rt tc ty F sz Wk wz dg dc sh hM tb hO hT RV hR b) ⟨callB_of 1 hts (gI gd_up gd_c q662) rfl rfl rfl (ht _ q10) (ht _ q659) hd_M_hasValue ⟨Nat.le_of_ble_eq_true rfl, Nat.le_of_ble_eq_true rfl⟩, ht _ q661, ht _ qs27⟩ (z_preV hK (va_recv hK.1 hM.1 (ci := 10) (q0 := 0) rfl rfl)) rfl rfl hl.1 rfl (lv_room (Nat.le_of_ble_eq_true rfl)) d_M_compare_10 ⟨Nat.zero_le _, Nat.zero_le _⟩) (fun v9 hv8 => ?_)
    have hv8 : v9 = .int (if (rgs RV b).isSome = true then 1 else 0) := hv8
    cases hr10 : rgs RV b with
    | none =>
      rw [hr10] at hv8
      subst hv8
      try dsimp only
      refine W.eq (g2 := F0 m 13 ls [.int 0]) rfl ?_
      refine lv_if_eq (tgt := 44) hx hb d_M_compare_13 (by decide) (fun _ => ?_) (fun c13 => absurd c13 (by decide))
      refine lv_iconst (v := 2) hx hb d_M_compare_44 (by decide) ?_
      exact z_iretQ hx hb hr hlocks d_M_compare_45 hS (Nat.le_refl _) (Nat.le_refl _) ⟨by unfold a_compare; rw [hr3, hr10], _, _, _, _, _, _, _, _, _, _, _, hM, hO, hT, hR, hWk⟩
    | some v11 =>
      rw [hr10] at hv8
      subst hv8
      refine W.eq (g2 := F0 m 13 ls [.int 1]) rfl ?_
      obtain ⟨j12, hj12, rfl, hV11⟩ := rgs_some hr10
      obtain ⟨ht11, et11, hw11, es11, hn11, hf11⟩ := mR_some hR hj12 hV11
      refine lv_if_eq (tgt := 44) hx hb d_M_compare_13 (by decide) (fun c14 => absurd c14 (by decide)) (fun _ => ?_)
      refine lv_aload_n hx hb d_M_compare_16 rfl (lv_at hl 0 rfl) ?_
      refine va_get (D := D) (ci := 10) (v := .ref (mm 4)) (C := "ValueTreesModel") (T := T_M) (N := 12) hx hb ht in_M hown hK.1 hM.1 0 rfl rfl 4 (by decide) (ht _ q543) (fun _ h9 => h9) rfl d_M_compare_17 ?_
      refine lv_iload_n hx hb d_M_compare_20 rfl (lv_at hl 1 rfl) ?_
      refine z_iald hx hb hK (hM.1 4 _ rfl) j5 rfl (by omega) (by decide) d_M_compare_21 ?_
      rw [et4]
      refine lv_aload_n hx hb d_M_compare_22 rfl (lv_at hl 0 rfl) ?_
      refine va_get (D := D) (ci := 10) (v := .ref (mm 4)) (C := "ValueTreesModel") (T := T_M) (N := 12) hx hb ht in_M hown hK.1 hM.1 0 rfl rfl 4 (by decide) (ht _ q543) (fun _ h9 => h9) rfl d_M_compare_23 ?_
      refine lv_iload_n hx hb d_M_compare_26 rfl (lv_at hl 2 rfl) ?_
      refine z_iald hx hb hK (hM.1 4 _ rfl) j12 rfl (by omega) (by decide) d_M_compare_27 ?_
      rw [et11]
      refine lv_icmp_ne (tgt := 44) hx hb d_M_compare_28 (by decide) (fun c15 => ?_) (fun c15 => ?_)
      · have nc15 : ¬ (vty v4) = (vty v11) := fun h9 => c15 ((nI_eq (a := (vty v4)) (b := (vty v11)) (by omega) (by omega)).mpr h9)
        refine lv_iconst (v := 2) hx hb d_M_compare_44 (by decide) ?_
        exact z_iretQ hx hb hr hlocks d_M_compare_45 hS (Nat.le_refl _) (Nat.le_refl _) ⟨by unfold a_compare; rw [hr3, hr10]; dsimp only; rw [if_neg (fun h9 => nc15 h9.1)], _, _, _, _, _, _, _, _, _, _, _, hM, hO, hT, hR, hWk⟩
      · have nc15 : (vty v4) = (vty v11) := (nI_eq (a := (vty v4)) (b := (vty v11)) (by omega) (by omega)).mp c15
        refine lv_aload_n hx hb d_M_compare_31 rfl (lv_at hl 0 rfl) ?_
        refine lv_aload_n hx hb d_M_compare_32 rfl (lv_at hl 0 rfl) ?_
        refine va_get (D := D) (ci := 10) (v := .ref (mm 4)) (C := "ValueTreesModel") (T := T_M) (N := 12) hx hb ht in_M hown hK.1 hM.1 0 rfl rfl 4 (by decide) (ht _ q543) (fun _ h9 => h9) rfl d_M_compare_33 ?_
        refine lv_iload_n hx hb d_M_compare_36 rfl (lv_at hl 1 rfl) ?_
        refine z_iald hx hb hK (hM.1 4 _ rfl) j5 rfl (by omega) (by decide) d_M_compare_37 ?_
        rw [et4]
        refine z_callR (va_runV (C := "ValueTreesModel") (As := [.int (nI (vty v4))]) (rest := []) ⟨hx, hb, hml, hown, hts⟩ (c_M_isComparable l D dT _ mm wd lf rt tc ty F sz Wk wz dg dc sh hM tb hO hT 200 (vty v4) (by omega) (hO.2.2 _ (by omega)).2.2.2.2.2.2.2.2.1) ⟨callB_of 1 hts (gI gd_up gd_c q588) rfl rfl rfl (ht _ q10) (ht _ q585) hd_M_isComparable ⟨Nat.le_of_ble_eq_true rfl, Nat.le_of_ble_eq_true rfl⟩, ht _ q587, ht _ qs14⟩ (z_preV hK (va_recv hK.1 hM.1 (ci := 10) (q0 := 0) rfl rfl)) rfl rfl hl.1 rfl (lv_room (Nat.le_of_ble_eq_true rfl)) d_M_compare_38 ⟨Nat.zero_le _, Nat.zero_le _⟩) (fun v17 hv16 => ?_)
        have hv16 : v17 = .int (if tC (tb (vty v4)) = true then 1 else 0) := hv16
        cases hq18 : tC (tb (vty v4)) with
        | false =>
          rw [hq18, if_neg (by decide)] at hv16
          subst hv16
          refine lv_if_ne (tgt := 46) hx hb d_M_compare_41 (by decide) (fun c19 => absurd c19 (by decide)) (fun _ => ?_)
          refine lv_iconst (v := 2) hx hb d_M_compare_44 (by decide) ?_
          exact z_iretQ hx hb hr hlocks d_M_compare_45 hS (Nat.le_refl _) (Nat.le_refl _) ⟨by unfold a_compare; rw [hr3, hr10]; dsimp only; rw [if_neg (fun h9 => by have h8 := h9.2; rw [hq18] at h8; cases h8)], _, _, _, _, _, _, _, _, _, _, _, hM, hO, hT, hR, hWk⟩
        | true =>
          rw [hq18, if_pos rfl] at hv16
          subst hv16
          refine lv_if_ne (tgt := 46) hx hb d_M_compare_41 (by decide) (fun _ => ?_) (fun c20 => absurd c20 (by decide))
          have hw11 : wty tb v11 0 (vty v4) := by rw [nc15]; exact hw11
          have hpa := (hO.2.2 _ ht4).2.2.2.2.2.2.2.2.1
          refine lv_aload_n hx hb d_M_compare_46 rfl (lv_at hl 0 rfl) ?_
          refine lv_aload_n hx hb d_M_compare_47 rfl (lv_at hl 0 rfl) ?_
          refine va_get (D := D) (ci := 10) (v := .ref (mm 4)) (C := "ValueTreesModel") (T := T_M) (N := 12) hx hb ht in_M hown hK.1 hM.1 0 rfl rfl 4 (by decide) (ht _ q543) (fun _ h9 => h9) rfl d_M_compare_48 ?_
          refine lv_iload_n hx hb d_M_compare_51 rfl (lv_at hl 1 rfl) ?_
          refine z_iald hx hb hK (hM.1 4 _ rfl) j5 rfl (by omega) (by decide) d_M_compare_52 ?_
          rw [et4]
          refine lv_iload_n hx hb d_M_compare_53 rfl (lv_at hl 1 rfl) ?_
          refine z_callR (va_runS (As := [.int (nI j5)]) (rest := [.int (nI (vty v4)), .ref (mm 0)]) ⟨hx, hb, hml, hown, hts⟩ (c_M_base l D dT _ (nI j5)) ⟨callB_of 1 hts (gI gd_up gd_c q650) rfl rfl rfl (ht _ q10) (ht _ q648) hd_M_base ⟨Nat.le_of_ble_eq_true rfl, Nat.le_of_ble_eq_true rfl⟩, ht _ q649⟩ (z_preS hK) rfl rfl hl.1 rfl (lv_room (Nat.le_of_ble_eq_true rfl)) d_M_compare_54 ⟨Nat.zero_le _, Nat.zero_le _⟩) (fun v22 hv21 => ?_)
          subst hv21
          rw [show (160 * nI j5 : Int32) = nI (160 * j5) from pk_mul 160 j5]
          refine lv_iload_n hx hb d_M_compare_57 rfl (lv_at hl 2 rfl) ?_
          refine z_callR (va_runS (As := [.int (nI j12)]) (rest := [.int (nI (160 * j5)), .int (nI (vty v4)), .ref (mm 0)]) ⟨hx, hb, hml, hown, hts⟩ (c_M_base l D dT _ (nI j12)) ⟨callB_of 1 hts (gI gd_up gd_c q650) rfl rfl rfl (ht _ q10) (ht _ q648) hd_M_base ⟨Nat.le_of_ble_eq_true rfl, Nat.le_of_ble_eq_true rfl⟩, ht _ q649⟩ (z_preS hK) rfl rfl hl.1 rfl (lv_room (Nat.le_of_ble_eq_true rfl)) d_M_compare_58 ⟨Nat.zero_le _, Nat.zero_le _⟩) (fun v24 hv23 => ?_)
          subst hv23
          rw [show (160 * nI j12 : Int32) = nI (160 * j12) from pk_mul 160 j12]
          refine z_callQ (va_runV (C := "ValueTreesModel") (As := [.int (nI (vty v4)), .int (nI (160 * j5)), .int (nI (160 * j12))]) (rest := []) ⟨hx, hb, hml, hown, hts⟩ (c_M_order l D dT s.heap mm wd lf rt tc ty F sz Wk wz hF tb hO hT 200 _ dg dc sh (vty v4) v4 v11 (160 * j5) (160 * j12) hM (by omega) hpa hq18 hw4 hw11 hf4 hf11 (by omega) (by omega)) ⟨callB_of 3 hts (gI gd_up gd_c q739) rfl rfl rfl (ht _ q10) (ht _ q736) hd_M_order ⟨Nat.le_of_ble_eq_true rfl, Nat.le_of_ble_eq_true rfl⟩, ht _ q738, ht _ qs38⟩ (z_preV hK (va_recv hK.1 hM.1 (ci := 10) (q0 := 0) rfl rfl)) rfl rfl hl.1 rfl (lv_room (Nat.le_of_ble_eq_true rfl)) d_M_compare_61 ⟨Nat.le_refl _, Nat.le_refl _⟩) hS (fun _ h9 => h9) (fun v26 H locs hv25 hz27 hf28 hS => ?_)
          obtain ⟨rfl, dg, dc, sh, hM⟩ := hv25
          refine W.eq (g2 := F0 m 64 ls [.int (vo v4 v11)]) rfl ?_
          exact z_iretQ hx hb hr hlocks d_M_compare_64 hS (Nat.le_refl _) (Nat.le_refl _) ⟨by unfold a_compare; rw [hr3, hr10]; dsimp only; rw [if_pos ⟨nc15, hq18⟩], _, _, _, _, _, _, _, _, _, _, _, hM, hO, hT, hR, hWk⟩
