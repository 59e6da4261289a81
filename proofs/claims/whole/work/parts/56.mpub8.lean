abbrev b_M_move : ByteArray := prog_12_method_53_code
abbrev y_M_move : MethodName := ⟨"ValueTreesModel", "move", "(II)Z"⟩
abbrev w_M_move : List Cond := .code y_M_move b_M_move 4 (Option.some .boolean) :: gt
theorem hd_M_move : (y_M_move).cls ≠ "java/lang/invoke/MethodHandle" ∧ (y_M_move).cls ≠ "java/lang/invoke/VarHandle" ∧ (parseMethodDescriptor (y_M_move).desc).map (fun d => d.parameters.length) = some 2 := by decide +kernel
theorem d_M_move_0 : decode b_M_move 0 = .ok (.iload_n 1, 1) := by decide +kernel
theorem d_M_move_1 : decode b_M_move 1 = .ok (.invokestatic 66, 3) := by decide +kernel
theorem d_M_move_4 : decode b_M_move 4 = .ok (.ifCond .eq 10, 3) := by decide +kernel
theorem d_M_move_7 : decode b_M_move 7 = .ok (.iload_n 2, 1) := by decide +kernel
theorem d_M_move_8 : decode b_M_move 8 = .ok (.invokestatic 66, 3) := by decide +kernel
theorem d_M_move_11 : decode b_M_move 11 = .ok (.ifCond .ne 5, 3) := by decide +kernel
theorem d_M_move_14 : decode b_M_move 14 = .ok (.iconst 0, 1) := by decide +kernel
theorem d_M_move_15 : decode b_M_move 15 = .ok (.ireturn, 1) := by decide +kernel
theorem d_M_move_16 : decode b_M_move 16 = .ok (.aload_n 0, 1) := by decide +kernel
theorem d_M_move_17 : decode b_M_move 17 = .ok (.getfield 19, 3) := by decide +kernel
theorem d_M_move_20 : decode b_M_move 20 = .ok (.iload_n 1, 1) := by decide +kernel
theorem d_M_move_21 : decode b_M_move 21 = .ok (.aload_n 0, 1) := by decide +kernel
theorem d_M_move_22 : decode b_M_move 22 = .ok (.getfield 19, 3) := by decide +kernel
theorem d_M_move_25 : decode b_M_move 25 = .ok (.iload_n 2, 1) := by decide +kernel
theorem d_M_move_26 : decode b_M_move 26 = .ok (.iaload, 1) := by decide +kernel
theorem d_M_move_27 : decode b_M_move 27 = .ok (.iastore, 1) := by decide +kernel
theorem d_M_move_28 : decode b_M_move 28 = .ok (.aload_n 0, 1) := by decide +kernel
theorem d_M_move_29 : decode b_M_move 29 = .ok (.getfield 26, 3) := by decide +kernel
theorem d_M_move_32 : decode b_M_move 32 = .ok (.iload_n 1, 1) := by decide +kernel
theorem d_M_move_33 : decode b_M_move 33 = .ok (.aload_n 0, 1) := by decide +kernel
theorem d_M_move_34 : decode b_M_move 34 = .ok (.getfield 26, 3) := by decide +kernel
theorem d_M_move_37 : decode b_M_move 37 = .ok (.iload_n 2, 1) := by decide +kernel
theorem d_M_move_38 : decode b_M_move 38 = .ok (.iaload, 1) := by decide +kernel
theorem d_M_move_39 : decode b_M_move 39 = .ok (.iastore, 1) := by decide +kernel
theorem d_M_move_40 : decode b_M_move 40 = .ok (.iconst 0, 1) := by decide +kernel
theorem d_M_move_41 : decode b_M_move 41 = .ok (.istore_n 3, 1) := by decide +kernel
theorem d_M_move_42 : decode b_M_move 42 = .ok (.iload_n 3, 1) := by decide +kernel
theorem d_M_move_43 : decode b_M_move 43 = .ok (.sipush 160, 3) := by decide +kernel
theorem d_M_move_46 : decode b_M_move 46 = .ok (.if_icmp .ge 31, 3) := by decide +kernel
theorem d_M_move_49 : decode b_M_move 49 = .ok (.aload_n 0, 1) := by decide +kernel
theorem d_M_move_50 : decode b_M_move 50 = .ok (.getfield 22, 3) := by decide +kernel
theorem d_M_move_53 : decode b_M_move 53 = .ok (.iload_n 1, 1) := by decide +kernel
theorem d_M_move_54 : decode b_M_move 54 = .ok (.invokestatic 112, 3) := by decide +kernel
theorem d_M_move_57 : decode b_M_move 57 = .ok (.iload_n 3, 1) := by decide +kernel
theorem d_M_move_58 : decode b_M_move 58 = .ok (.iadd, 1) := by decide +kernel
theorem d_M_move_59 : decode b_M_move 59 = .ok (.aload_n 0, 1) := by decide +kernel
theorem d_M_move_60 : decode b_M_move 60 = .ok (.getfield 22, 3) := by decide +kernel
theorem d_M_move_63 : decode b_M_move 63 = .ok (.iload_n 2, 1) := by decide +kernel
theorem d_M_move_64 : decode b_M_move 64 = .ok (.invokestatic 112, 3) := by decide +kernel
theorem d_M_move_67 : decode b_M_move 67 = .ok (.iload_n 3, 1) := by decide +kernel
theorem d_M_move_68 : decode b_M_move 68 = .ok (.iadd, 1) := by decide +kernel
theorem d_M_move_69 : decode b_M_move 69 = .ok (.baload, 1) := by decide +kernel
theorem d_M_move_70 : decode b_M_move 70 = .ok (.bastore, 1) := by decide +kernel
theorem d_M_move_71 : decode b_M_move 71 = .ok (.iinc 3 1, 3) := by decide +kernel
theorem d_M_move_74 : decode b_M_move 74 = .ok (.goto (-32), 3) := by decide +kernel
theorem d_M_move_77 : decode b_M_move 77 = .ok (.iconst 1, 1) := by decide +kernel
theorem d_M_move_78 : decode b_M_move 78 = .ok (.ireturn, 1) := by decide +kernel
set_option maxHeartbeats 4000000 in
set_option maxRecDepth 100000 in
theorem p_M_move (l : Launch) (D : va_G) (dT : Nat → ClassId) (H : Heap) (mm : Nat → Nat) (tb : Nat → TR) (tc : Nat) (RV : Nat → Option VT) (hI : mI D dT mm tb tc RV H) (r f : Int32) : Met l y_M_move w_M_move ({ frames := 1, cells := 0, slots := 0, locals := 20 }) (z_P D dT [.ref (mm 0), .int r, .int f] H) (z_Q (mA mm) (fun v H1 => v = some (.int (a_move r f)) ∧ mI D dT mm tb tc (v_move RV r f) H1)) 0 0 (mA mm) := by
  obtain ⟨wd, lf, rt, ty, F, sz, Wk, wz, dg, dc, sh, hM, hO, hT, hR, hWk⟩ := hI
  have hF := hR.1
  have htc := hO.1
  have htc10 := hO.2.1
  refine Met.ofW (cc := b_M_move) (maxL := 4) (ret := (Option.some .boolean)) (by decide) rfl ?_
  intro p e s m args below meth c s₁ B hml hv
  obtain ⟨rfl, rfl, hK⟩ := hv
  have hx := B.exec
  have hb := B.bytes
  have hr := B.returns
  have hts := atoms_spec (ws := w_M_move) B.pre
  have ht : ∀ w9 ∈ gt, w9.before [.ref (mm 0), .int r, .int f].toArray s = true := fun w9 h => hts w9 (List.mem_cons_of_mem _ h)
  have hown : s.vm.findClass "ValueTreesModel" = some m.cls := findClass_of_methodNamed B.named
  have hlocks := B.notSynchronized
  have hS : va_S (mA mm) s.heap s.heap [] := va_S.rf
  have hl := lv_entry ([.ref (mm 0), .int r, .int f]) (n := 4) (Nat.le_of_ble_eq_true rfl)
  rw [lg_entry_eq]
  generalize (lg_sl ([.ref (mm 0), .int r, .int f]) ++ List.replicate (4 - (lg_sl ([.ref (mm 0), .int r, .int f])).length) Slot.unset).toArray = ls at hl ⊢
  have hl : lv_has ls 4 [(0, .ref (mm 0)), (1, .int r), (2, .int f)] := hl
  refine lv_iload_n hx hb d_M_move_0 rfl (lv_at hl 1 rfl) ?_
  refine z_callR (va_runS (As := [.int r]) (rest := []) ⟨hx, hb, hml, hown, hts⟩ (c_M_isRegister l D dT _ r) ⟨callB_of 1 hts (gI gd_up gd_c q619) rfl rfl rfl (ht _ q10) (ht _ q617) hd_M_isRegister ⟨Nat.le_of_ble_eq_true rfl, Nat.le_of_ble_eq_true rfl⟩, ht _ q618⟩ (z_preS hK) rfl rfl hl.1 rfl (lv_room (Nat.le_of_ble_eq_true rfl)) d_M_move_1 ⟨Nat.zero_le _, Nat.zero_le _⟩) (fun v2 hv1 => ?_)
  have hv1 : v2 = .int (if inR r then 1 else 0) := hv1
  rcases Classical.em (inR r) with hq3 | hq3
  · rw [if_pos hq3] at hv1
    subst hv1
    refine lv_if_eq (tgt := 14) hx hb d_M_move_4 (by decide) (fun c4 => absurd c4 (by decide)) (fun _ => ?_)
    obtain ⟨j, hj, rfl⟩ := inR_of hq3
    refine lv_iload_n hx hb d_M_move_7 rfl (lv_at hl 2 rfl) ?_
    refine z_callR (va_runS (As := [.int f]) (rest := []) ⟨hx, hb, hml, hown, hts⟩ (c_M_isRegister l D dT _ f) ⟨callB_of 1 hts (gI gd_up gd_c q619) rfl rfl rfl (ht _ q10) (ht _ q617) hd_M_isRegister ⟨Nat.le_of_ble_eq_true rfl, Nat.le_of_ble_eq_true rfl⟩, ht _ q618⟩ (z_preS hK) rfl rfl hl.1 rfl (lv_room (Nat.le_of_ble_eq_true rfl)) d_M_move_8 ⟨Nat.zero_le _, Nat.zero_le _⟩) (fun v6 hv5 => ?_)
    have hv5 : v6 = .int (if inR f then 1 else 0) := hv5
    rcases Classical.em (inR f) with hq7 | hq7
    · rw [if_pos hq7] at hv5
      subst hv5
      refine lv_if_ne (tgt := 16) hx hb d_M_move_11 (by decide) (fun _ => ?_) (fun c8 => absurd c8 (by decide))
      obtain ⟨jf, hjf, rfl⟩ := inR_of hq7
      refine lv_aload_n hx hb d_M_move_16 rfl (lv_at hl 0 rfl) ?_
      refine va_get (D := D) (ci := 10) (v := .ref (mm 4)) (C := "ValueTreesModel") (T := T_M) (N := 12) hx hb ht in_M hown hK.1 hM.1 0 rfl rfl 4 (by decide) (ht _ q543) (fun _ h9 => h9) rfl d_M_move_17 ?_
      refine lv_iload_n hx hb d_M_move_20 rfl (lv_at hl 1 rfl) ?_
      refine lv_aload_n hx hb d_M_move_21 rfl (lv_at hl 0 rfl) ?_
      refine va_get (D := D) (ci := 10) (v := .ref (mm 4)) (C := "ValueTreesModel") (T := T_M) (N := 12) hx hb ht in_M hown hK.1 hM.1 0 rfl rfl 4 (by decide) (ht _ q543) (fun _ h9 => h9) rfl d_M_move_22 ?_
      refine lv_iload_n hx hb d_M_move_25 rfl (lv_at hl 2 rfl) ?_
      refine z_iald hx hb hK (hM.1 4 _ rfl) jf rfl (by omega) (by decide) d_M_move_26 ?_
      refine m_ast_ty hx hb hK hM hS j rfl (by omega) d_M_move_27 (fun H locs hM hS => ?_)
      have hM : mAt D dT mm wd lf rt tc (upd ty j (ty jf)) F sz Wk wz dg dc sh H := hM
      refine lv_aload_n hx hb d_M_move_28 rfl (lv_at hl 0 rfl) ?_
      refine va_get (D := D) (ci := 10) (v := .ref (mm 6)) (C := "ValueTreesModel") (T := T_M) (N := 12) hx hb ht in_M hown hK.1 hM.1 0 rfl rfl 6 (by decide) (ht _ q545) (fun _ h9 => h9) rfl d_M_move_29 ?_
      refine lv_iload_n hx hb d_M_move_32 rfl (lv_at hl 1 rfl) ?_
      refine lv_aload_n hx hb d_M_move_33 rfl (lv_at hl 0 rfl) ?_
      refine va_get (D := D) (ci := 10) (v := .ref (mm 6)) (C := "ValueTreesModel") (T := T_M) (N := 12) hx hb ht in_M hown hK.1 hM.1 0 rfl rfl 6 (by decide) (ht _ q545) (fun _ h9 => h9) rfl d_M_move_34 ?_
      refine lv_iload_n hx hb d_M_move_37 rfl (lv_at hl 2 rfl) ?_
      refine z_iald hx hb hK (hM.1 6 _ rfl) jf rfl (by omega) (by decide) d_M_move_38 ?_
      refine m_ast_sz hx hb hK hM hS j rfl (by omega) d_M_move_39 (fun H locs hM hS => ?_)
      have hM : mAt D dT mm wd lf rt tc (upd ty j (ty jf)) F (upd sz j (sz jf)) Wk wz dg dc sh H := hM
      refine lv_iconst (v := 0) hx hb d_M_move_40 (by decide) ?_
      refine lv_istore_n (lv' := [(3, .int 0), (0, .ref (mm 0)), (1, .int (nI j)), (2, .int (nI jf))]) hx hb d_M_move_41 rfl hl (by decide) rfl (fun ls hl => ?_)
      have hM : mAt D dT mm wd lf rt tc (upd ty j (ty jf)) (cpM F (160 * j) (160 * jf) 0) (upd sz j (sz jf)) Wk wz dg dc sh H := by rw [cpM_0]; exact hM
      have hab : 160 * j = 160 * jf ∨ 160 * jf + 160 ≤ 160 * j ∨ 160 * j + 160 ≤ 160 * jf := by omega
      have loop9 : ∀ (n429 : Nat) (i : Nat), (i ≤ 160) → 160 - i < n429 → ∀ (H : Heap) (locs : List Loc) , mAt D dT mm wd lf rt tc (upd ty j (ty jf)) (cpM F (160 * j) (160 * jf) i) (upd sz j (sz jf)) Wk wz dg dc sh H → va_S (mA mm) s.heap H locs → ∀ (ls : Array Slot), lv_has ls 4 [(3, .int (nI i)), (0, .ref (mm 0)), (1, .int (nI j)), (2, .int (nI jf))] → W p l e (headSpec w_M_move ({ frames := 1, cells := 0, slots := 0, locals := 20 })).room s m [.ref (mm 0), .int (nI j), .int (nI jf)].toArray below meth c H locs 0 0 (MQ below (z_Q (mA mm) (fun v H1 => v = some (.int (a_move (nI j) (nI jf))) ∧ mI D dT mm tb tc (v_move RV (nI j) (nI jf)) H1)) [.ref (mm 0), .int (nI j), .int (nI jf)].toArray s 0 0 (mA mm)) (F0 m 42 ls []) := by
        intro n429
        induction n429 with
        | zero =>
          intro i hi h429
          exact absurd h429 (Nat.not_lt_zero _)
        | succ n429 ih42 =>
          intro i hi h429 H locs   hM hS ls hl
          refine lv_iload_n hx hb d_M_move_42 rfl (lv_at hl 0 rfl) ?_
          refine lv_sipush (v := 160) hx hb d_M_move_43 (by decide) ?_
          refine lv_icmp_ge (tgt := 77) hx hb d_M_move_46 (by decide) (fun c10 => ?_) (fun c10 => ?_)
          · have nc10 : 160 ≤ i := (nI_leI (a := 160) (b := i) (by omega) (by omega)).mp c10
            refine lv_iconst (v := 1) hx hb d_M_move_77 (by decide) ?_
            refine z_zretQ hx hb hr hlocks d_M_move_78 rfl hS (Nat.le_refl _) (Nat.le_refl _) ?_
            have e9 : i = 160 := by omega
            subst e9
            unfold a_move v_move
            rw [if_pos ⟨inR_nI hj, inR_nI hjf⟩, if_pos ⟨inR_nI hj, inR_nI hjf⟩, nI_clamp (by omega), nI_clamp (by omega)]
            exact ⟨rfl, _, _, _, _, _, _, _, _, _, _, _, hM, hO, hT, mR_move hR hj hjf, hWk⟩
          · have nc10 : ¬ 160 ≤ i := fun h9 => c10 ((nI_leI (a := 160) (b := i) (by omega) (by omega)).mpr h9)
            refine lv_aload_n hx hb d_M_move_49 rfl (lv_at hl 1 rfl) ?_
            refine va_get (D := D) (ci := 10) (v := .ref (mm 5)) (C := "ValueTreesModel") (T := T_M) (N := 12) hx hb ht in_M hown hK.1 hM.1 0 rfl rfl 5 (by decide) (ht _ q544) (fun _ h9 => h9) rfl d_M_move_50 ?_
            refine lv_iload_n hx hb d_M_move_53 rfl (lv_at hl 2 rfl) ?_
            refine z_callR (va_runS (As := [.int (nI j)]) (rest := [.ref (mm 5)]) ⟨hx, hb, hml, hown, hts⟩ (c_M_base l D dT _ (nI j)) ⟨callB_of 1 hts (gI gd_up gd_c q650) rfl rfl rfl (ht _ q10) (ht _ q648) hd_M_base ⟨Nat.le_of_ble_eq_true rfl, Nat.le_of_ble_eq_true rfl⟩, ht _ q649⟩ (z_preS hK) rfl rfl hl.1 rfl (lv_room (Nat.le_of_ble_eq_true rfl)) d_M_move_54 ⟨Nat.zero_le _, Nat.zero_le _⟩) (fun v12 hv11 => ?_)
            subst hv11
            rw [show (160 * nI j : Int32) = nI (160 * j) from pk_mul 160 j]
            refine lv_iload_n hx hb d_M_move_57 rfl (lv_at hl 0 rfl) ?_
            refine lv_iadd hx hb d_M_move_58 ?_
            rw [show (((nI (160 * j)) + (nI i)) : Int32) = nI ((160 * j) + i) from nI_add (160 * j) i]
            refine lv_aload_n hx hb d_M_move_59 rfl (lv_at hl 1 rfl) ?_
            refine va_get (D := D) (ci := 10) (v := .ref (mm 5)) (C := "ValueTreesModel") (T := T_M) (N := 12) hx hb ht in_M hown hK.1 hM.1 0 rfl rfl 5 (by decide) (ht _ q544) (fun _ h9 => h9) rfl d_M_move_60 ?_
            refine lv_iload_n hx hb d_M_move_63 rfl (lv_at hl 3 rfl) ?_
            refine z_callR (va_runS (As := [.int (nI jf)]) (rest := [.ref (mm 5), .int (nI ((160 * j) + i)), .ref (mm 5)]) ⟨hx, hb, hml, hown, hts⟩ (c_M_base l D dT _ (nI jf)) ⟨callB_of 1 hts (gI gd_up gd_c q650) rfl rfl rfl (ht _ q10) (ht _ q648) hd_M_base ⟨Nat.le_of_ble_eq_true rfl, Nat.le_of_ble_eq_true rfl⟩, ht _ q649⟩ (z_preS hK) rfl rfl hl.1 rfl (lv_room (Nat.le_of_ble_eq_true rfl)) d_M_move_64 ⟨Nat.zero_le _, Nat.zero_le _⟩) (fun v14 hv13 => ?_)
            subst hv13
            rw [show (160 * nI jf : Int32) = nI (160 * jf) from pk_mul 160 jf]
            refine lv_iload_n hx hb d_M_move_67 rfl (lv_at hl 0 rfl) ?_
            refine lv_iadd hx hb d_M_move_68 ?_
            rw [show (((nI (160 * jf)) + (nI i)) : Int32) = nI ((160 * jf) + i) from nI_add (160 * jf) i]
            refine z_bald hx hb hK (hM.1 5 _ rfl) ((160 * jf) + i) rfl (by omega) (by decide) d_M_move_69 ?_
            refine m_ast_F hx hb hK hM hS ((160 * j) + i) rfl (by omega) ((cpM F (160 * j) (160 * jf) i) ((160 * jf) + i)) (nar_by8' _) d_M_move_70 (fun H locs hM hS => ?_)
            have hM : mAt D dT mm wd lf rt tc (upd ty j (ty jf)) (updN (cpM F (160 * j) (160 * jf) i) ((160 * j) + i) ((cpM F (160 * j) (160 * jf) i) ((160 * jf) + i))) (upd sz j (sz jf)) Wk wz dg dc sh H := hM
            refine lv_iinc (v := (nI (i + 1))) (lv' := [(3, .int (nI (i + 1))), (0, .ref (mm 0)), (1, .int (nI j)), (2, .int (nI jf))]) hx hb d_M_move_71 hl (k := 0) rfl (nI_1 i) (by decide) rfl (fun ls hl => ?_)
            refine lv_goto (tgt := 42) hx hb d_M_move_74 (by decide) ?_
            rw [cpM_s hab (by omega)] at hM
            exact ih42 (i + 1) (by omega) (by omega) _ _ hM hS ls (lv_sub hl [0, 1, 2, 3] rfl)
      exact loop9 161 0 (by omega) (by omega) _ _ hM hS ls (lv_sub hl [0, 1, 2, 3] rfl)
    · rw [if_neg hq7] at hv5
      subst hv5
      refine lv_if_ne (tgt := 16) hx hb d_M_move_11 (by decide) (fun c15 => absurd c15 (by decide)) (fun _ => ?_)
      refine lv_iconst (v := 0) hx hb d_M_move_14 (by decide) ?_
      refine z_zretQ hx hb hr hlocks d_M_move_15 rfl hS (Nat.le_refl _) (Nat.le_refl _) ?_
      unfold a_move v_move
      rw [if_neg (fun h9 => hq7 h9.2), if_neg (fun h9 => hq7 h9.2)]
      exact ⟨rfl, _, _, _, _, _, _, _, _, _, _, _, hM, hO, hT, hR, hWk⟩
  · rw [if_neg hq3] at hv1
    subst hv1
    refine lv_if_eq (tgt := 14) hx hb d_M_move_4 (by decide) (fun _ => ?_) (fun c16 => absurd c16 (by decide))
    refine lv_iconst (v := 0) hx hb d_M_move_14 (by decide) ?_
    refine z_zretQ hx hb hr hlocks d_M_move_15 rfl hS (Nat.le_refl _) (Nat.le_refl _) ?_
    unfold a_move v_move
    rw [if_neg (fun h9 => hq3 h9.1), if_neg (fun h9 => hq3 h9.1)]
    exact ⟨rfl, _, _, _, _, _, _, _, _, _, _, _, hM, hO, hT, hR, hWk⟩
theorem s03 {x : Int32} (h1 : ¬ x < 0) (h2 : x ≤ 3) : x = 0 ∨ x = 1 ∨ x = 2 ∨ x = 3 := by
  revert h1 h2; simp only [Int32.lt_iff_toInt_lt, Int32.le_iff_toInt_le, ← Int32.toInt_inj, Int32.reduceToInt]; intros; omega
theorem ofT_no {tb : Nat → TR} {tc : Nat} {t w : Int32} (h : w < 0 ∨ 3 < w) : a_ofType tb tc t w = -1 := by
  have h0 : ¬ w = 0 := by rintro rfl; revert h; decide
  have h1 : ¬ w = 1 := by rintro rfl; revert h; decide
  have h2 : ¬ w = 2 := by rintro rfl; revert h; decide
  have h3 : ¬ w = 3 := by rintro rfl; revert h; decide
  unfold a_ofType
  cases tN tc t with
  | none => rfl
  | some k => dsimp only; rw [if_neg h0, if_neg h1, if_neg h2, if_neg h3]
abbrev b_M_ofType : ByteArray := prog_12_method_10_code
abbrev y_M_ofType : MethodName := ⟨"ValueTreesModel", "ofType", "(II)I"⟩
abbrev w_M_ofType : List Cond := .code y_M_ofType b_M_ofType 3 (Option.some .int) :: gt
theorem hd_M_ofType : (y_M_ofType).cls ≠ "java/lang/invoke/MethodHandle" ∧ (y_M_ofType).cls ≠ "java/lang/invoke/VarHandle" ∧ (parseMethodDescriptor (y_M_ofType).desc).map (fun d => d.parameters.length) = some 2 := by decide +kernel
theorem d_M_ofType_0 : decode b_M_ofType 0 = .ok (.aload_n 0, 1) := by decide +kernel
theorem d_M_ofType_1 : decode b_M_ofType 1 = .ok (.iload_n 1, 1) := by decide +kernel
theorem d_M_ofType_2 : decode b_M_ofType 2 = .ok (.invokevirtual 60, 3) := by decide +kernel
theorem d_M_ofType_5 : decode b_M_ofType 5 = .ok (.ifCond .eq 12, 3) := by decide +kernel
theorem d_M_ofType_8 : decode b_M_ofType 8 = .ok (.iload_n 2, 1) := by decide +kernel
theorem d_M_ofType_9 : decode b_M_ofType 9 = .ok (.ifCond .lt 8, 3) := by decide +kernel
theorem d_M_ofType_12 : decode b_M_ofType 12 = .ok (.iload_n 2, 1) := by decide +kernel
theorem d_M_ofType_13 : decode b_M_ofType 13 = .ok (.iconst 3, 1) := by decide +kernel
theorem d_M_ofType_14 : decode b_M_ofType 14 = .ok (.if_icmp .le 5, 3) := by decide +kernel
theorem d_M_ofType_17 : decode b_M_ofType 17 = .ok (.iconst (-1), 1) := by decide +kernel
theorem d_M_ofType_18 : decode b_M_ofType 18 = .ok (.ireturn, 1) := by decide +kernel
theorem d_M_ofType_19 : decode b_M_ofType 19 = .ok (.iload_n 2, 1) := by decide +kernel
theorem d_M_ofType_20 : decode b_M_ofType 20 = .ok (.tableswitch 49 0 2 #[28, 35, 42], 28) := by decide +kernel
theorem d_M_ofType_48 : decode b_M_ofType 48 = .ok (.aload_n 0, 1) := by decide +kernel
theorem d_M_ofType_49 : decode b_M_ofType 49 = .ok (.getfield 7, 3) := by decide +kernel
theorem d_M_ofType_52 : decode b_M_ofType 52 = .ok (.iload_n 1, 1) := by decide +kernel
theorem d_M_ofType_53 : decode b_M_ofType 53 = .ok (.iaload, 1) := by decide +kernel
theorem d_M_ofType_54 : decode b_M_ofType 54 = .ok (.ireturn, 1) := by decide +kernel
theorem d_M_ofType_55 : decode b_M_ofType 55 = .ok (.aload_n 0, 1) := by decide +kernel
theorem d_M_ofType_56 : decode b_M_ofType 56 = .ok (.getfield 13, 3) := by decide +kernel
theorem d_M_ofType_59 : decode b_M_ofType 59 = .ok (.iload_n 1, 1) := by decide +kernel
theorem d_M_ofType_60 : decode b_M_ofType 60 = .ok (.iaload, 1) := by decide +kernel
theorem d_M_ofType_61 : decode b_M_ofType 61 = .ok (.ireturn, 1) := by decide +kernel
theorem d_M_ofType_62 : decode b_M_ofType 62 = .ok (.aload_n 0, 1) := by decide +kernel
theorem d_M_ofType_63 : decode b_M_ofType 63 = .ok (.getfield 16, 3) := by decide +kernel
theorem d_M_ofType_66 : decode b_M_ofType 66 = .ok (.iload_n 1, 1) := by decide +kernel
theorem d_M_ofType_67 : decode b_M_ofType 67 = .ok (.iaload, 1) := by decide +kernel
theorem d_M_ofType_68 : decode b_M_ofType 68 = .ok (.ireturn, 1) := by decide +kernel
theorem d_M_ofType_69 : decode b_M_ofType 69 = .ok (.aload_n 0, 1) := by decide +kernel
theorem d_M_ofType_70 : decode b_M_ofType 70 = .ok (.iload_n 1, 1) := by decide +kernel
theorem d_M_ofType_71 : decode b_M_ofType 71 = .ok (.invokevirtual 46, 3) := by decide +kernel
theorem d_M_ofType_74 : decode b_M_ofType 74 = .ok (.ifCond .eq 7, 3) := by decide +kernel
theorem d_M_ofType_77 : decode b_M_ofType 77 = .ok (.iconst 1, 1) := by decide +kernel
theorem d_M_ofType_78 : decode b_M_ofType 78 = .ok (.goto 4, 3) := by decide +kernel
theorem d_M_ofType_81 : decode b_M_ofType 81 = .ok (.iconst 0, 1) := by decide +kernel
theorem d_M_ofType_82 : decode b_M_ofType 82 = .ok (.aload_n 0, 1) := by decide +kernel
theorem d_M_ofType_83 : decode b_M_ofType 83 = .ok (.iload_n 1, 1) := by decide +kernel
theorem d_M_ofType_84 : decode b_M_ofType 84 = .ok (.invokevirtual 50, 3) := by decide +kernel
theorem d_M_ofType_87 : decode b_M_ofType 87 = .ok (.ifCond .eq 7, 3) := by decide +kernel
theorem d_M_ofType_90 : decode b_M_ofType 90 = .ok (.iconst 2, 1) := by decide +kernel
theorem d_M_ofType_91 : decode b_M_ofType 91 = .ok (.goto 4, 3) := by decide +kernel
theorem d_M_ofType_94 : decode b_M_ofType 94 = .ok (.iconst 0, 1) := by decide +kernel
theorem d_M_ofType_95 : decode b_M_ofType 95 = .ok (.iadd, 1) := by decide +kernel
theorem d_M_ofType_96 : decode b_M_ofType 96 = .ok (.aload_n 0, 1) := by decide +kernel
theorem d_M_ofType_97 : decode b_M_ofType 97 = .ok (.iload_n 1, 1) := by decide +kernel
theorem d_M_ofType_98 : decode b_M_ofType 98 = .ok (.invokevirtual 53, 3) := by decide +kernel
theorem d_M_ofType_101 : decode b_M_ofType 101 = .ok (.ifCond .eq 7, 3) := by decide +kernel
theorem d_M_ofType_104 : decode b_M_ofType 104 = .ok (.iconst 4, 1) := by decide +kernel
theorem d_M_ofType_105 : decode b_M_ofType 105 = .ok (.goto 4, 3) := by decide +kernel
theorem d_M_ofType_108 : decode b_M_ofType 108 = .ok (.iconst 0, 1) := by decide +kernel
theorem d_M_ofType_109 : decode b_M_ofType 109 = .ok (.iadd, 1) := by decide +kernel
theorem d_M_ofType_110 : decode b_M_ofType 110 = .ok (.ireturn, 1) := by decide +kernel
set_option maxHeartbeats 4000000 in
set_option maxRecDepth 100000 in
theorem p_M_ofType (l : Launch) (D : va_G) (dT : Nat → ClassId) (H : Heap) (mm : Nat → Nat) (tb : Nat → TR) (tc : Nat) (RV : Nat → Option VT) (hI : mI D dT mm tb tc RV H) (t w : Int32) : Met l y_M_ofType w_M_ofType ({ frames := 210, cells := 0, slots := 0, locals := 5400 }) (z_P D dT [.ref (mm 0), .int t, .int w] H) (z_R (fun v => v = .int (a_ofType tb tc t w))) 0 0 (fun _ => False) := by
  obtain ⟨wd, lf, rt, ty, F, sz, Wk, wz, dg, dc, sh, hM, hO, hT, hR, hWk⟩ := hI
  have hF := hR.1
  have htc := hO.1
  have htc10 := hO.2.1
  refine Met.ofW (cc := b_M_ofType) (maxL := 3) (ret := (Option.some .int)) (by decide) rfl ?_
  intro p e s m args below meth c s₁ B hml hv
  obtain ⟨rfl, rfl, hK⟩ := hv
  have hx := B.exec
  have hb := B.bytes
  have hr := B.returns
  have hts := atoms_spec (ws := w_M_ofType) B.pre
  have ht : ∀ w9 ∈ gt, w9.before [.ref (mm 0), .int t, .int w].toArray s = true := fun w9 h => hts w9 (List.mem_cons_of_mem _ h)
  have hown : s.vm.findClass "ValueTreesModel" = some m.cls := findClass_of_methodNamed B.named
  have hlocks := B.notSynchronized
  have hl := lv_entry ([.ref (mm 0), .int t, .int w]) (n := 3) (Nat.le_of_ble_eq_true rfl)
  rw [lg_entry_eq]
  generalize (lg_sl ([.ref (mm 0), .int t, .int w]) ++ List.replicate (3 - (lg_sl ([.ref (mm 0), .int t, .int w])).length) Slot.unset).toArray = ls at hl ⊢
  have hl : lv_has ls 3 [(0, .ref (mm 0)), (1, .int t), (2, .int w)] := hl
  refine lv_aload_n hx hb d_M_ofType_0 rfl (lv_at hl 0 rfl) ?_
  refine lv_iload_n hx hb d_M_ofType_1 rfl (lv_at hl 1 rfl) ?_
  refine z_callR (va_runV (C := "ValueTreesModel") (As := [.int t]) (rest := []) ⟨hx, hb, hml, hown, hts⟩ (c_M_isType l D dT _ mm wd lf rt tc ty F sz Wk wz dg dc sh hM t) ⟨callB_of 1 hts (gI gd_up gd_c q584) rfl rfl rfl (ht _ q10) (ht _ q581) hd_M_isType ⟨Nat.le_of_ble_eq_true rfl, Nat.le_of_ble_eq_true rfl⟩, ht _ q583, ht _ qs13⟩ (z_preV hK (va_recv hK.1 hM.1 (ci := 10) (q0 := 0) rfl rfl)) rfl rfl hl.1 rfl (lv_room (Nat.le_of_ble_eq_true rfl)) d_M_ofType_2 ⟨Nat.zero_le _, Nat.zero_le _⟩) (fun v2 hv1 => ?_)
  have hv1 : v2 = .int (if 0 ≤ t ∧ t < nI tc then 1 else 0) := hv1
  rcases Classical.em (0 ≤ t ∧ t < nI tc) with hq3 | hq3
  · rw [if_pos hq3] at hv1
    subst hv1
    refine lv_if_eq (tgt := 17) hx hb d_M_ofType_5 (by decide) (fun c4 => absurd c4 (by decide)) (fun _ => ?_)
    obtain ⟨kt, hkt, rfl⟩ := tN_of hq3 htc
    have ekt1 := (hT kt hkt).1
    have ekt2 := (hT kt hkt).2.1
    have ekt3 := (hT kt hkt).2.2
    have rkt1 := (hO.2.2 kt hkt).1
    have rkt2 := (hO.2.2 kt hkt).2.1
    refine lv_iload_n hx hb d_M_ofType_8 rfl (lv_at hl 2 rfl) ?_
    refine lv_if_lt (tgt := 17) hx hb d_M_ofType_9 (by decide) (fun c5 => ?_) (fun c5 => ?_)
    · refine lv_iconst (v := (-1)) hx hb d_M_ofType_17 (by decide) ?_
      exact z_iretR hx hb hr hlocks d_M_ofType_18 (by rw [ofT_no (Or.inl c5)])
    · refine lv_iload_n hx hb d_M_ofType_12 rfl (lv_at hl 2 rfl) ?_
      refine lv_iconst (v := 3) hx hb d_M_ofType_13 (by decide) ?_
      refine lv_icmp_le (tgt := 19) hx hb d_M_ofType_14 (by decide) (fun c6 => ?_) (fun c6 => ?_)
      · rcases s03 c5 c6 with rfl | rfl | rfl | rfl
        · refine lv_iload_n hx hb d_M_ofType_19 rfl (lv_at hl 2 rfl) ?_
          refine lv_tableIn (tgt := 48) hx hb d_M_ofType_20 (by rw [show (0 : Int32) = 0 from rfl]; decide) (by rw [show (0 : Int32) = 0 from rfl]; decide) (by rw [show (0 : Int32) = 0 from rfl]; rfl) (by decide) ?_
          refine lv_aload_n hx hb d_M_ofType_48 rfl (lv_at hl 0 rfl) ?_
          refine va_get (D := D) (ci := 10) (v := .ref (mm 1)) (C := "ValueTreesModel") (T := T_M) (N := 12) hx hb ht in_M hown hK.1 hM.1 0 rfl rfl 0 (by decide) (ht _ q539) (fun _ h9 => h9) rfl d_M_ofType_49 ?_
          refine lv_iload_n hx hb d_M_ofType_52 rfl (lv_at hl 1 rfl) ?_
          refine z_iald hx hb hK (hM.1 1 _ rfl) kt rfl (by omega) (by decide) d_M_ofType_53 ?_
          rw [ekt1]
          exact z_iretR hx hb hr hlocks d_M_ofType_54 (by unfold a_ofType; rw [tN_nI hkt htc]; show _ = Value.int (nI (tW (tb kt))); first | rfl | rw [(hT kt hkt).1] | rw [(hT kt hkt).2.1] | rw [(hT kt hkt).2.2])
        · refine lv_iload_n hx hb d_M_ofType_19 rfl (lv_at hl 2 rfl) ?_
          refine lv_tableIn (tgt := 55) hx hb d_M_ofType_20 (by rw [show (1 : Int32) = 1 from rfl]; decide) (by rw [show (1 : Int32) = 1 from rfl]; decide) (by rw [show (1 : Int32) = 1 from rfl]; rfl) (by decide) ?_
          refine lv_aload_n hx hb d_M_ofType_55 rfl (lv_at hl 0 rfl) ?_
          refine va_get (D := D) (ci := 10) (v := .ref (mm 2)) (C := "ValueTreesModel") (T := T_M) (N := 12) hx hb ht in_M hown hK.1 hM.1 0 rfl rfl 1 (by decide) (ht _ q540) (fun _ h9 => h9) rfl d_M_ofType_56 ?_
          refine lv_iload_n hx hb d_M_ofType_59 rfl (lv_at hl 1 rfl) ?_
          refine z_iald hx hb hK (hM.1 2 _ rfl) kt rfl (by omega) (by decide) d_M_ofType_60 ?_
          exact z_iretR hx hb hr hlocks d_M_ofType_61 (by unfold a_ofType; rw [tN_nI hkt htc]; show _ = Value.int (oI (tL (tb kt))); first | rfl | rw [(hT kt hkt).1] | rw [(hT kt hkt).2.1] | rw [(hT kt hkt).2.2])
        · refine lv_iload_n hx hb d_M_ofType_19 rfl (lv_at hl 2 rfl) ?_
          refine lv_tableIn (tgt := 62) hx hb d_M_ofType_20 (by rw [show (2 : Int32) = 2 from rfl]; decide) (by rw [show (2 : Int32) = 2 from rfl]; decide) (by rw [show (2 : Int32) = 2 from rfl]; rfl) (by decide) ?_
          refine lv_aload_n hx hb d_M_ofType_62 rfl (lv_at hl 0 rfl) ?_
          refine va_get (D := D) (ci := 10) (v := .ref (mm 3)) (C := "ValueTreesModel") (T := T_M) (N := 12) hx hb ht in_M hown hK.1 hM.1 0 rfl rfl 2 (by decide) (ht _ q541) (fun _ h9 => h9) rfl d_M_ofType_63 ?_
          refine lv_iload_n hx hb d_M_ofType_66 rfl (lv_at hl 1 rfl) ?_
          refine z_iald hx hb hK (hM.1 3 _ rfl) kt rfl (by omega) (by decide) d_M_ofType_67 ?_
          exact z_iretR hx hb hr hlocks d_M_ofType_68 (by unfold a_ofType; rw [tN_nI hkt htc]; show _ = Value.int (oI (tR (tb kt))); first | rfl | rw [(hT kt hkt).1] | rw [(hT kt hkt).2.1] | rw [(hT kt hkt).2.2])
        · refine lv_iload_n hx hb d_M_ofType_19 rfl (lv_at hl 2 rfl) ?_
          refine lv_tableOut (tgt := 69) hx hb d_M_ofType_20 (by rw [show (3 : Int32) = 3 from rfl]; decide) (by decide) ?_
          refine lv_aload_n hx hb d_M_ofType_69 rfl (lv_at hl 0 rfl) ?_
          refine lv_iload_n hx hb d_M_ofType_70 rfl (lv_at hl 1 rfl) ?_
          refine z_callR (va_runV (C := "ValueTreesModel") (As := [.int (nI kt)]) (rest := []) ⟨hx, hb, hml, hown, hts⟩ (c_M_isComparable l D dT _ mm wd lf rt tc ty F sz Wk wz dg dc sh hM tb hO hT 200 kt (by omega) (hO.2.2 _ (by omega)).2.2.2.2.2.2.2.2.1) ⟨callB_of 1 hts (gI gd_up gd_c q588) rfl rfl rfl (ht _ q10) (ht _ q585) hd_M_isComparable ⟨Nat.le_of_ble_eq_true rfl, Nat.le_of_ble_eq_true rfl⟩, ht _ q587, ht _ qs14⟩ (z_preV hK (va_recv hK.1 hM.1 (ci := 10) (q0 := 0) rfl rfl)) rfl rfl hl.1 rfl (lv_room (Nat.le_of_ble_eq_true rfl)) d_M_ofType_71 ⟨Nat.zero_le _, Nat.zero_le _⟩) (fun v8 hv7 => ?_)
          have hv7 : v8 = .int (if tC (tb kt) = true then 1 else 0) := hv7
          cases hq9 : tC (tb kt) with
          | false =>
            rw [hq9, if_neg (by decide)] at hv7
            subst hv7
            refine lv_if_eq (tgt := 81) hx hb d_M_ofType_74 (by decide) (fun _ => ?_) (fun c10 => absurd c10 (by decide))
            refine lv_iconst (v := 0) hx hb d_M_ofType_81 (by decide) ?_
            refine lv_aload_n hx hb d_M_ofType_82 rfl (lv_at hl 0 rfl) ?_
            refine lv_iload_n hx hb d_M_ofType_83 rfl (lv_at hl 1 rfl) ?_
            refine z_callR (va_runV (C := "ValueTreesModel") (As := [.int (nI kt)]) (rest := [.int 0]) ⟨hx, hb, hml, hown, hts⟩ (c_M_isData l D dT _ mm wd lf rt tc ty F sz Wk wz dg dc sh hM tb hO hT 200 kt (by omega) (hO.2.2 _ (by omega)).2.2.2.2.2.2.2.2.1) ⟨callB_of 1 hts (gI gd_up gd_c q608) rfl rfl rfl (ht _ q10) (ht _ q605) hd_M_isData ⟨Nat.le_of_ble_eq_true rfl, Nat.le_of_ble_eq_true rfl⟩, ht _ q607, ht _ qs18⟩ (z_preV hK (va_recv hK.1 hM.1 (ci := 10) (q0 := 0) rfl rfl)) rfl rfl hl.1 rfl (lv_room (Nat.le_of_ble_eq_true rfl)) d_M_ofType_84 ⟨Nat.zero_le _, Nat.zero_le _⟩) (fun v12 hv11 => ?_)
            have hv11 : v12 = .int (if tD (tb kt) = true then 1 else 0) := hv11
            cases hq13 : tD (tb kt) with
            | false =>
              rw [hq13, if_neg (by decide)] at hv11
              subst hv11
              refine lv_if_eq (tgt := 94) hx hb d_M_ofType_87 (by decide) (fun _ => ?_) (fun c14 => absurd c14 (by decide))
              refine lv_iconst (v := 0) hx hb d_M_ofType_94 (by decide) ?_
              refine lv_iadd hx hb d_M_ofType_95 ?_
              refine lv_aload_n hx hb d_M_ofType_96 rfl (lv_at hl 0 rfl) ?_
              refine lv_iload_n hx hb d_M_ofType_97 rfl (lv_at hl 1 rfl) ?_
              refine z_callR (va_runV (C := "ValueTreesModel") (As := [.int (nI kt)]) (rest := [.int (0 + 0)]) ⟨hx, hb, hml, hown, hts⟩ (c_M_isStorable l D dT _ mm wd lf rt tc ty F sz Wk wz dg dc sh hM tb hO hT 200 kt (by omega) (hO.2.2 _ (by omega)).2.2.2.2.2.2.2.2.1) ⟨callB_of 1 hts (gI gd_up gd_c q612) rfl rfl rfl (ht _ q10) (ht _ q609) hd_M_isStorable ⟨Nat.le_of_ble_eq_true rfl, Nat.le_of_ble_eq_true rfl⟩, ht _ q611, ht _ qs19⟩ (z_preV hK (va_recv hK.1 hM.1 (ci := 10) (q0 := 0) rfl rfl)) rfl rfl hl.1 rfl (lv_room (Nat.le_of_ble_eq_true rfl)) d_M_ofType_98 ⟨Nat.zero_le _, Nat.zero_le _⟩) (fun v16 hv15 => ?_)
              have hv15 : v16 = .int (if tS (tb kt) = true then 1 else 0) := hv15
              cases hq17 : tS (tb kt) with
              | false =>
                rw [hq17, if_neg (by decide)] at hv15
                subst hv15
                refine lv_if_eq (tgt := 108) hx hb d_M_ofType_101 (by decide) (fun _ => ?_) (fun c18 => absurd c18 (by decide))
                refine lv_iconst (v := 0) hx hb d_M_ofType_108 (by decide) ?_
                refine lv_iadd hx hb d_M_ofType_109 ?_
                exact z_iretR hx hb hr hlocks d_M_ofType_110 (by unfold a_ofType; rw [tN_nI hkt htc]; show _ = Value.int (nI (tK (tb kt))); unfold tK; rw [hq9, hq13, hq17]; rfl)
              | true =>
                rw [hq17, if_pos rfl] at hv15
                subst hv15
                refine lv_if_eq (tgt := 108) hx hb d_M_ofType_101 (by decide) (fun c19 => absurd c19 (by decide)) (fun _ => ?_)
                refine lv_iconst (v := 4) hx hb d_M_ofType_104 (by decide) ?_
                refine lv_goto (tgt := 109) hx hb d_M_ofType_105 (by decide) ?_
                refine lv_iadd hx hb d_M_ofType_109 ?_
                exact z_iretR hx hb hr hlocks d_M_ofType_110 (by unfold a_ofType; rw [tN_nI hkt htc]; show _ = Value.int (nI (tK (tb kt))); unfold tK; rw [hq9, hq13, hq17]; rfl)
            | true =>
              rw [hq13, if_pos rfl] at hv11
              subst hv11
              refine lv_if_eq (tgt := 94) hx hb d_M_ofType_87 (by decide) (fun c20 => absurd c20 (by decide)) (fun _ => ?_)
              refine lv_iconst (v := 2) hx hb d_M_ofType_90 (by decide) ?_
              refine lv_goto (tgt := 95) hx hb d_M_ofType_91 (by decide) ?_
              refine lv_iadd hx hb d_M_ofType_95 ?_
              refine lv_aload_n hx hb d_M_ofType_96 rfl (lv_at hl 0 rfl) ?_
              refine lv_iload_n hx hb d_M_ofType_97 rfl (lv_at hl 1 rfl) ?_
              refine z_callR (va_runV (C := "ValueTreesModel") (As := [.int (nI kt)]) (rest := [.int (0 + 2)]) ⟨hx, hb, hml, hown, hts⟩ (c_M_isStorable l D dT _ mm wd lf rt tc ty F sz Wk wz dg dc sh hM tb hO hT 200 kt (by omega) (hO.2.2 _ (by omega)).2.2.2.2.2.2.2.2.1) ⟨callB_of 1 hts (gI gd_up gd_c q612) rfl rfl rfl (ht _ q10) (ht _ q609) hd_M_isStorable ⟨Nat.le_of_ble_eq_true rfl, Nat.le_of_ble_eq_true rfl⟩, ht _ q611, ht _ qs19⟩ (z_preV hK (va_recv hK.1 hM.1 (ci := 10) (q0 := 0) rfl rfl)) rfl rfl hl.1 rfl (lv_room (Nat.le_of_ble_eq_true rfl)) d_M_ofType_98 ⟨Nat.zero_le _, Nat.zero_le _⟩) (fun v22 hv21 => ?_)
              have hv21 : v22 = .int (if tS (tb kt) = true then 1 else 0) := hv21
              cases hq23 : tS (tb kt) with
              | false =>
                rw [hq23, if_neg (by decide)] at hv21
                subst hv21
                refine lv_if_eq (tgt := 108) hx hb d_M_ofType_101 (by decide) (fun _ => ?_) (fun c24 => absurd c24 (by decide))
                refine lv_iconst (v := 0) hx hb d_M_ofType_108 (by decide) ?_
                refine lv_iadd hx hb d_M_ofType_109 ?_
                exact z_iretR hx hb hr hlocks d_M_ofType_110 (by unfold a_ofType; rw [tN_nI hkt htc]; show _ = Value.int (nI (tK (tb kt))); unfold tK; rw [hq9, hq13, hq23]; rfl)
              | true =>
                rw [hq23, if_pos rfl] at hv21
                subst hv21
                refine lv_if_eq (tgt := 108) hx hb d_M_ofType_101 (by decide) (fun c25 => absurd c25 (by decide)) (fun _ => ?_)
                refine lv_iconst (v := 4) hx hb d_M_ofType_104 (by decide) ?_
                refine lv_goto (tgt := 109) hx hb d_M_ofType_105 (by decide) ?_
                refine lv_iadd hx hb d_M_ofType_109 ?_
                exact z_iretR hx hb hr hlocks d_M_ofType_110 (by unfold a_ofType; rw [tN_nI hkt htc]; show _ = Value.int (nI (tK (tb kt))); unfold tK; rw [hq9, hq13, hq23]; rfl)
          | true =>
            rw [hq9, if_pos rfl] at hv7
            subst hv7
            refine lv_if_eq (tgt := 81) hx hb d_M_ofType_74 (by decide) (fun c26 => absurd c26 (by decide)) (fun _ => ?_)
            refine lv_iconst (v := 1) hx hb d_M_ofType_77 (by decide) ?_
            refine lv_goto (tgt := 82) hx hb d_M_ofType_78 (by decide) ?_
            refine lv_aload_n hx hb d_M_ofType_82 rfl (lv_at hl 0 rfl) ?_
            refine lv_iload_n hx hb d_M_ofType_83 rfl (lv_at hl 1 rfl) ?_
            refine z_callR (va_runV (C := "ValueTreesModel") (As := [.int (nI kt)]) (rest := [.int 1]) ⟨hx, hb, hml, hown, hts⟩ (c_M_isData l D dT _ mm wd lf rt tc ty F sz Wk wz dg dc sh hM tb hO hT 200 kt (by omega) (hO.2.2 _ (by omega)).2.2.2.2.2.2.2.2.1) ⟨callB_of 1 hts (gI gd_up gd_c q608) rfl rfl rfl (ht _ q10) (ht _ q605) hd_M_isData ⟨Nat.le_of_ble_eq_true rfl, Nat.le_of_ble_eq_true rfl⟩, ht _ q607, ht _ qs18⟩ (z_preV hK (va_recv hK.1 hM.1 (ci := 10) (q0 := 0) rfl rfl)) rfl rfl hl.1 rfl (lv_room (Nat.le_of_ble_eq_true rfl)) d_M_ofType_84 ⟨Nat.zero_le _, Nat.zero_le _⟩) (fun v28 hv27 => ?_)
            have hv27 : v28 = .int (if tD (tb kt) = true then 1 else 0) := hv27
            cases hq29 : tD (tb kt) with
            | false =>
              rw [hq29, if_neg (by decide)] at hv27
              subst hv27
              refine lv_if_eq (tgt := 94) hx hb d_M_ofType_87 (by decide) (fun _ => ?_) (fun c30 => absurd c30 (by decide))
              refine lv_iconst (v := 0) hx hb d_M_ofType_94 (by decide) ?_
              refine lv_iadd hx hb d_M_ofType_95 ?_
              refine lv_aload_n hx hb d_M_ofType_96 rfl (lv_at hl 0 rfl) ?_
              refine lv_iload_n hx hb d_M_ofType_97 rfl (lv_at hl 1 rfl) ?_
              refine z_callR (va_runV (C := "ValueTreesModel") (As := [.int (nI kt)]) (rest := [.int (1 + 0)]) ⟨hx, hb, hml, hown, hts⟩ (c_M_isStorable l D dT _ mm wd lf rt tc ty F sz Wk wz dg dc sh hM tb hO hT 200 kt (by omega) (hO.2.2 _ (by omega)).2.2.2.2.2.2.2.2.1) ⟨callB_of 1 hts (gI gd_up gd_c q612) rfl rfl rfl (ht _ q10) (ht _ q609) hd_M_isStorable ⟨Nat.le_of_ble_eq_true rfl, Nat.le_of_ble_eq_true rfl⟩, ht _ q611, ht _ qs19⟩ (z_preV hK (va_recv hK.1 hM.1 (ci := 10) (q0 := 0) rfl rfl)) rfl rfl hl.1 rfl (lv_room (Nat.le_of_ble_eq_true rfl)) d_M_ofType_98 ⟨Nat.zero_le _, Nat.zero_le _⟩) (fun v32 hv31 => ?_)
              have hv31 : v32 = .int (if tS (tb kt) = true then 1 else 0) := hv31
              cases hq33 : tS (tb kt) with
              | false =>
                rw [hq33, if_neg (by decide)] at hv31
                subst hv31
                refine lv_if_eq (tgt := 108) hx hb d_M_ofType_101 (by decide) (fun _ => ?_) (fun c34 => absurd c34 (by decide))
                refine lv_iconst (v := 0) hx hb d_M_ofType_108 (by decide) ?_
                refine lv_iadd hx hb d_M_ofType_109 ?_
                exact z_iretR hx hb hr hlocks d_M_ofType_110 (by unfold a_ofType; rw [tN_nI hkt htc]; show _ = Value.int (nI (tK (tb kt))); unfold tK; rw [hq9, hq29, hq33]; rfl)
              | true =>
                rw [hq33, if_pos rfl] at hv31
                subst hv31
                refine lv_if_eq (tgt := 108) hx hb d_M_ofType_101 (by decide) (fun c35 => absurd c35 (by decide)) (fun _ => ?_)
                refine lv_iconst (v := 4) hx hb d_M_ofType_104 (by decide) ?_
                refine lv_goto (tgt := 109) hx hb d_M_ofType_105 (by decide) ?_
                refine lv_iadd hx hb d_M_ofType_109 ?_
                exact z_iretR hx hb hr hlocks d_M_ofType_110 (by unfold a_ofType; rw [tN_nI hkt htc]; show _ = Value.int (nI (tK (tb kt))); unfold tK; rw [hq9, hq29, hq33]; rfl)
            | true =>
              rw [hq29, if_pos rfl] at hv27
              subst hv27
              refine lv_if_eq (tgt := 94) hx hb d_M_ofType_87 (by decide) (fun c36 => absurd c36 (by decide)) (fun _ => ?_)
              refine lv_iconst (v := 2) hx hb d_M_ofType_90 (by decide) ?_
              refine lv_goto (tgt := 95) hx hb d_M_ofType_91 (by decide) ?_
              refine lv_iadd hx hb d_M_ofType_95 ?_
              refine lv_aload_n hx hb d_M_ofType_96 rfl (lv_at hl 0 rfl) ?_
              refine lv_iload_n hx hb d_M_ofType_97 rfl (lv_at hl 1 rfl) ?_
              refine z_callR (va_runV (C := "ValueTreesModel") (As := [.int (nI kt)]) (rest := [.int (1 + 2)]) ⟨hx, hb, hml, hown, hts⟩ (c_M_isStorable l D dT _ mm wd lf rt tc ty F sz Wk wz dg dc sh hM tb hO hT 200 kt (by omega) (hO.2.2 _ (by omega)).2.2.2.2.2.2.2.2.1) ⟨callB_of 1 hts (gI gd_up gd_c q612) rfl rfl rfl (ht _ q10) (ht _ q609) hd_M_isStorable ⟨Nat.le_of_ble_eq_true rfl, Nat.le_of_ble_eq_true rfl⟩, ht _ q611, ht _ qs19⟩ (z_preV hK (va_recv hK.1 hM.1 (ci := 10) (q0 := 0) rfl rfl)) rfl rfl hl.1 rfl (lv_room (Nat.le_of_ble_eq_true rfl)) d_M_ofType_98 ⟨Nat.zero_le _, Nat.zero_le _⟩) (fun v38 hv37 => ?_)
              have hv37 : v38 = .int (if tS (tb kt) = true then 1 else 0) := hv37
              cases hq39 : tS (tb kt) with
              | false =>
                rw [hq39, if_neg (by decide)] at hv37
                subst hv37
                refine lv_if_eq (tgt := 108) hx hb d_M_ofType_101 (by decide) (fun _ => ?_) (fun c40 => absurd c40 (by decide))
                refine lv_iconst (v := 0) hx hb d_M_ofType_108 (by decide) ?_
                refine lv_iadd hx hb d_M_ofType_109 ?_
                exact z_iretR hx hb hr hlocks d_M_ofType_110 (by unfold a_ofType; rw [tN_nI hkt htc]; show _ = Value.int (nI (tK (tb kt))); unfold tK; rw [hq9, hq29, hq39]; rfl)
              | true =>
                rw [hq39, if_pos rfl] at hv37
                subst hv37
                refine lv_if_eq (tgt := 108) hx hb d_M_ofType_101 (by decide) (fun c41 => absurd c41 (by decide)) (fun _ => ?_)
                refine lv_iconst (v := 4) hx hb d_M_ofType_104 (by decide) ?_
                refine lv_goto (tgt := 109) hx hb d_M_ofType_105 (by decide) ?_
                refine lv_iadd hx hb d_M_ofType_109 ?_
                exact z_iretR hx hb hr hlocks d_M_ofType_110 (by unfold a_ofType; rw [tN_nI hkt htc]; show _ = Value.int (nI (tK (tb kt))); unfold tK; rw [hq9, hq29, hq39]; rfl)
      · refine lv_iconst (v := (-1)) hx hb d_M_ofType_17 (by decide) ?_
        exact z_iretR hx hb hr hlocks d_M_ofType_18 (by rw [ofT_no (Or.inr (Int32.not_le.mp c6))])
  · rw [if_neg hq3] at hv1
    subst hv1
    refine lv_if_eq (tgt := 17) hx hb d_M_ofType_5 (by decide) (fun _ => ?_) (fun c42 => absurd c42 (by decide))
    refine lv_iconst (v := (-1)) hx hb d_M_ofType_17 (by decide) ?_
    exact z_iretR hx hb hr hlocks d_M_ofType_18 (by unfold a_ofType; rw [tN_none hq3])
