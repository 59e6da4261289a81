abbrev b_M_typeOf : ByteArray := prog_12_method_55_code
abbrev y_M_typeOf : MethodName := ⟨"ValueTreesModel", "typeOf", "(I)I"⟩
abbrev w_M_typeOf : List Cond := .code y_M_typeOf b_M_typeOf 2 (Option.some .int) :: gt
theorem hd_M_typeOf : (y_M_typeOf).cls ≠ "java/lang/invoke/MethodHandle" ∧ (y_M_typeOf).cls ≠ "java/lang/invoke/VarHandle" ∧ (parseMethodDescriptor (y_M_typeOf).desc).map (fun d => d.parameters.length) = some 1 := by decide +kernel
theorem d_M_typeOf_0 : decode b_M_typeOf 0 = .ok (.aload_n 0, 1) := by decide +kernel
theorem d_M_typeOf_1 : decode b_M_typeOf 1 = .ok (.iload_n 1, 1) := by decide +kernel
theorem d_M_typeOf_2 : decode b_M_typeOf 2 = .ok (.invokevirtual 69, 3) := by decide +kernel
theorem d_M_typeOf_5 : decode b_M_typeOf 5 = .ok (.ifCond .eq 12, 3) := by decide +kernel
theorem d_M_typeOf_8 : decode b_M_typeOf 8 = .ok (.aload_n 0, 1) := by decide +kernel
theorem d_M_typeOf_9 : decode b_M_typeOf 9 = .ok (.getfield 19, 3) := by decide +kernel
theorem d_M_typeOf_12 : decode b_M_typeOf 12 = .ok (.iload_n 1, 1) := by decide +kernel
theorem d_M_typeOf_13 : decode b_M_typeOf 13 = .ok (.iaload, 1) := by decide +kernel
theorem d_M_typeOf_14 : decode b_M_typeOf 14 = .ok (.goto 4, 3) := by decide +kernel
theorem d_M_typeOf_17 : decode b_M_typeOf 17 = .ok (.iconst (-1), 1) := by decide +kernel
theorem d_M_typeOf_18 : decode b_M_typeOf 18 = .ok (.ireturn, 1) := by decide +kernel
set_option maxHeartbeats 4000000 in
set_option maxRecDepth 100000 in
theorem p_M_typeOf (l : Launch) (D : va_G) (dT : Nat → ClassId) (H : Heap) (mm : Nat → Nat) (tb : Nat → TR) (tc : Nat) (RV : Nat → Option VT) (hI : mI D dT mm tb tc RV H) (r : Int32) : Met l y_M_typeOf w_M_typeOf ({ frames := 2, cells := 0, slots := 0, locals := 41 }) (z_P D dT [.ref (mm 0), .int r] H) (z_R (fun v => v = .int (a_typeOf RV r))) 0 0 (fun _ => False) := by
  obtain ⟨wd, lf, rt, ty, F, sz, Wk, wz, dg, dc, sh, hM, hO, hT, hR, hWk⟩ := hI
  have hF := hR.1
  have htc := hO.1
  have htc10 := hO.2.1
  refine Met.ofW (cc := b_M_typeOf) (maxL := 2) (ret := (Option.some .int)) (by decide) rfl ?_
  intro p e s m args below meth c s₁ B hml hv
  obtain ⟨rfl, rfl, hK⟩ := hv
  have hx := B.exec
  have hb := B.bytes
  have hr := B.returns
  have hts := atoms_spec (ws := w_M_typeOf) B.pre
  have ht : ∀ w9 ∈ gt, w9.before [.ref (mm 0), .int r].toArray s = true := fun w9 h => hts w9 (List.mem_cons_of_mem _ h)
  have hown : s.vm.findClass "ValueTreesModel" = some m.cls := findClass_of_methodNamed B.named
  have hlocks := B.notSynchronized
  have hl := lv_entry ([.ref (mm 0), .int r]) (n := 2) (Nat.le_of_ble_eq_true rfl)
  rw [lg_entry_eq]
  generalize (lg_sl ([.ref (mm 0), .int r]) ++ List.replicate (2 - (lg_sl ([.ref (mm 0), .int r])).length) Slot.unset).toArray = ls at hl ⊢
  have hl : lv_has ls 2 [(0, .ref (mm 0)), (1, .int r)] := hl
  refine lv_aload_n hx hb d_M_typeOf_0 rfl (lv_at hl 0 rfl) ?_
  refine lv_iload_n hx hb d_M_typeOf_1 rfl (lv_at hl 1 rfl) ?_
  refine z_callR (va_runV (C := "ValueTreesModel") (As := [.int r]) (rest := []) ⟨hx, hb, hml, hown, hts⟩ (c_M_hasValue l D dT _ mm wd lf rt tc ty F sz Wk wz dg dc sh hM tb hO hT RV hR r) ⟨callB_of 1 hts (gI gd_up gd_c q662) rfl rfl rfl (ht _ q10) (ht _ q659) hd_M_hasValue ⟨Nat.le_of_ble_eq_true rfl, Nat.le_of_ble_eq_true rfl⟩, ht _ q661, ht _ qs27⟩ (z_preV hK (va_recv hK.1 hM.1 (ci := 10) (q0 := 0) rfl rfl)) rfl rfl hl.1 rfl (lv_room (Nat.le_of_ble_eq_true rfl)) d_M_typeOf_2 ⟨Nat.zero_le _, Nat.zero_le _⟩) (fun v2 hv1 => ?_)
  have hv1 : v2 = .int (if (rgs RV r).isSome = true then 1 else 0) := hv1
  cases hr3 : rgs RV r with
  | none =>
    rw [hr3] at hv1
    subst hv1
    try dsimp only
    refine W.eq (g2 := F0 m 5 ls [.int 0]) rfl ?_
    refine lv_if_eq (tgt := 17) hx hb d_M_typeOf_5 (by decide) (fun _ => ?_) (fun c6 => absurd c6 (by decide))
    refine lv_iconst (v := (-1)) hx hb d_M_typeOf_17 (by decide) ?_
    exact z_iretR hx hb hr hlocks d_M_typeOf_18 (by unfold a_typeOf; rw [hr3])
  | some v4 =>
    rw [hr3] at hv1
    subst hv1
    refine W.eq (g2 := F0 m 5 ls [.int 1]) rfl ?_
    obtain ⟨j5, hj5, rfl, hV4⟩ := rgs_some hr3
    obtain ⟨ht4, et4, hw4, es4, hn4, hf4⟩ := mR_some hR hj5 hV4
    refine lv_if_eq (tgt := 17) hx hb d_M_typeOf_5 (by decide) (fun c7 => absurd c7 (by decide)) (fun _ => ?_)
    refine lv_aload_n hx hb d_M_typeOf_8 rfl (lv_at hl 0 rfl) ?_
    refine va_get (D := D) (ci := 10) (v := .ref (mm 4)) (C := "ValueTreesModel") (T := T_M) (N := 12) hx hb ht in_M hown hK.1 hM.1 0 rfl rfl 4 (by decide) (ht _ q543) (fun _ h9 => h9) rfl d_M_typeOf_9 ?_
    refine lv_iload_n hx hb d_M_typeOf_12 rfl (lv_at hl 1 rfl) ?_
    refine z_iald hx hb hK (hM.1 4 _ rfl) j5 rfl (by omega) (by decide) d_M_typeOf_13 ?_
    rw [et4]
    refine lv_goto (tgt := 18) hx hb d_M_typeOf_14 (by decide) ?_
    exact z_iretR hx hb hr hlocks d_M_typeOf_18 (by unfold a_typeOf; rw [hr3])
abbrev b_M_length : ByteArray := prog_12_method_56_code
abbrev y_M_length : MethodName := ⟨"ValueTreesModel", "length", "(I)I"⟩
abbrev w_M_length : List Cond := .code y_M_length b_M_length 2 (Option.some .int) :: gt
theorem hd_M_length : (y_M_length).cls ≠ "java/lang/invoke/MethodHandle" ∧ (y_M_length).cls ≠ "java/lang/invoke/VarHandle" ∧ (parseMethodDescriptor (y_M_length).desc).map (fun d => d.parameters.length) = some 1 := by decide +kernel
theorem d_M_length_0 : decode b_M_length 0 = .ok (.aload_n 0, 1) := by decide +kernel
theorem d_M_length_1 : decode b_M_length 1 = .ok (.iload_n 1, 1) := by decide +kernel
theorem d_M_length_2 : decode b_M_length 2 = .ok (.invokevirtual 69, 3) := by decide +kernel
theorem d_M_length_5 : decode b_M_length 5 = .ok (.ifCond .eq 12, 3) := by decide +kernel
theorem d_M_length_8 : decode b_M_length 8 = .ok (.aload_n 0, 1) := by decide +kernel
theorem d_M_length_9 : decode b_M_length 9 = .ok (.getfield 26, 3) := by decide +kernel
theorem d_M_length_12 : decode b_M_length 12 = .ok (.iload_n 1, 1) := by decide +kernel
theorem d_M_length_13 : decode b_M_length 13 = .ok (.iaload, 1) := by decide +kernel
theorem d_M_length_14 : decode b_M_length 14 = .ok (.goto 4, 3) := by decide +kernel
theorem d_M_length_17 : decode b_M_length 17 = .ok (.iconst (-1), 1) := by decide +kernel
theorem d_M_length_18 : decode b_M_length 18 = .ok (.ireturn, 1) := by decide +kernel
set_option maxHeartbeats 4000000 in
set_option maxRecDepth 100000 in
theorem p_M_length (l : Launch) (D : va_G) (dT : Nat → ClassId) (H : Heap) (mm : Nat → Nat) (tb : Nat → TR) (tc : Nat) (RV : Nat → Option VT) (hI : mI D dT mm tb tc RV H) (r : Int32) : Met l y_M_length w_M_length ({ frames := 2, cells := 0, slots := 0, locals := 41 }) (z_P D dT [.ref (mm 0), .int r] H) (z_R (fun v => v = .int (a_length RV r))) 0 0 (fun _ => False) := by
  obtain ⟨wd, lf, rt, ty, F, sz, Wk, wz, dg, dc, sh, hM, hO, hT, hR, hWk⟩ := hI
  have hF := hR.1
  have htc := hO.1
  have htc10 := hO.2.1
  refine Met.ofW (cc := b_M_length) (maxL := 2) (ret := (Option.some .int)) (by decide) rfl ?_
  intro p e s m args below meth c s₁ B hml hv
  obtain ⟨rfl, rfl, hK⟩ := hv
  have hx := B.exec
  have hb := B.bytes
  have hr := B.returns
  have hts := atoms_spec (ws := w_M_length) B.pre
  have ht : ∀ w9 ∈ gt, w9.before [.ref (mm 0), .int r].toArray s = true := fun w9 h => hts w9 (List.mem_cons_of_mem _ h)
  have hown : s.vm.findClass "ValueTreesModel" = some m.cls := findClass_of_methodNamed B.named
  have hlocks := B.notSynchronized
  have hl := lv_entry ([.ref (mm 0), .int r]) (n := 2) (Nat.le_of_ble_eq_true rfl)
  rw [lg_entry_eq]
  generalize (lg_sl ([.ref (mm 0), .int r]) ++ List.replicate (2 - (lg_sl ([.ref (mm 0), .int r])).length) Slot.unset).toArray = ls at hl ⊢
  have hl : lv_has ls 2 [(0, .ref (mm 0)), (1, .int r)] := hl
  refine lv_aload_n hx hb d_M_length_0 rfl (lv_at hl 0 rfl) ?_
  refine lv_iload_n hx hb d_M_length_1 rfl (lv_at hl 1 rfl) ?_
  refine z_callR (va_runV (C := "ValueTreesModel") (As := [.int r]) (rest := []) ⟨hx, hb, hml, hown, hts⟩ (c_M_hasValue l D dT _ mm wd lf rt tc ty F sz Wk wz dg dc sh hM tb hO hT RV hR r) ⟨callB_of 1 hts (gI gd_up gd_c q662) rfl rfl rfl (ht _ q10) (ht _ q659) hd_M_hasValue ⟨Nat.le_of_ble_eq_true rfl, Nat.le_of_ble_eq_true rfl⟩, ht _ q661, ht _ qs27⟩ (z_preV hK (va_recv hK.1 hM.1 (ci := 10) (q0 := 0) rfl rfl)) rfl rfl hl.1 rfl (lv_room (Nat.le_of_ble_eq_true rfl)) d_M_length_2 ⟨Nat.zero_le _, Nat.zero_le _⟩) (fun v2 hv1 => ?_)
  have hv1 : v2 = .int (if (rgs RV r).isSome = true then 1 else 0) := hv1
  cases hr3 : rgs RV r with
  | none =>
    rw [hr3] at hv1
    subst hv1
    try dsimp only
    refine W.eq (g2 := F0 m 5 ls [.int 0]) rfl ?_
    refine lv_if_eq (tgt := 17) hx hb d_M_length_5 (by decide) (fun _ => ?_) (fun c6 => absurd c6 (by decide))
    refine lv_iconst (v := (-1)) hx hb d_M_length_17 (by decide) ?_
    exact z_iretR hx hb hr hlocks d_M_length_18 (by unfold a_length; rw [hr3])
  | some v4 =>
    rw [hr3] at hv1
    subst hv1
    refine W.eq (g2 := F0 m 5 ls [.int 1]) rfl ?_
    obtain ⟨j5, hj5, rfl, hV4⟩ := rgs_some hr3
    obtain ⟨ht4, et4, hw4, es4, hn4, hf4⟩ := mR_some hR hj5 hV4
    refine lv_if_eq (tgt := 17) hx hb d_M_length_5 (by decide) (fun c7 => absurd c7 (by decide)) (fun _ => ?_)
    refine lv_aload_n hx hb d_M_length_8 rfl (lv_at hl 0 rfl) ?_
    refine va_get (D := D) (ci := 10) (v := .ref (mm 6)) (C := "ValueTreesModel") (T := T_M) (N := 12) hx hb ht in_M hown hK.1 hM.1 0 rfl rfl 6 (by decide) (ht _ q545) (fun _ h9 => h9) rfl d_M_length_9 ?_
    refine lv_iload_n hx hb d_M_length_12 rfl (lv_at hl 1 rfl) ?_
    refine z_iald hx hb hK (hM.1 6 _ rfl) j5 rfl (by omega) (by decide) d_M_length_13 ?_
    rw [es4]
    refine lv_goto (tgt := 18) hx hb d_M_length_14 (by decide) ?_
    exact z_iretR hx hb hr hlocks d_M_length_18 (by unfold a_length; rw [hr3])
theorem mR_clear {tc : Nat} {tb : Nat → TR} {ty sz : Nat → Int32} {F : Nat → Nat} {RV : Nat → Option VT} (h : mR tc tb ty sz F RV) (j : Nat) : mR tc tb (upd ty j (-1)) sz F (updR RV j none) := by
  refine ⟨h.1, fun i hi => ?_⟩
  by_cases hij : i = j
  · subst hij
    refine ⟨fun _ => upd_s, fun v hv => ?_⟩
    simp [updR] at hv
  · rw [show updR RV j none i = RV i from if_neg hij, upd_n hij]
    exact h.2 i hi
def a_clear (r : Int32) : Int32 := if inR r then 1 else 0
def v_clear (RV : Nat → Option VT) (r : Int32) : Nat → Option VT := if inR r then updR RV r.toNatClampNeg none else RV
abbrev b_M_clear : ByteArray := prog_12_method_54_code
abbrev y_M_clear : MethodName := ⟨"ValueTreesModel", "clear", "(I)Z"⟩
abbrev w_M_clear : List Cond := .code y_M_clear b_M_clear 2 (Option.some .boolean) :: gt
theorem hd_M_clear : (y_M_clear).cls ≠ "java/lang/invoke/MethodHandle" ∧ (y_M_clear).cls ≠ "java/lang/invoke/VarHandle" ∧ (parseMethodDescriptor (y_M_clear).desc).map (fun d => d.parameters.length) = some 1 := by decide +kernel
theorem d_M_clear_0 : decode b_M_clear 0 = .ok (.iload_n 1, 1) := by decide +kernel
theorem d_M_clear_1 : decode b_M_clear 1 = .ok (.invokestatic 66, 3) := by decide +kernel
theorem d_M_clear_4 : decode b_M_clear 4 = .ok (.ifCond .ne 5, 3) := by decide +kernel
theorem d_M_clear_7 : decode b_M_clear 7 = .ok (.iconst 0, 1) := by decide +kernel
theorem d_M_clear_8 : decode b_M_clear 8 = .ok (.ireturn, 1) := by decide +kernel
theorem d_M_clear_9 : decode b_M_clear 9 = .ok (.aload_n 0, 1) := by decide +kernel
theorem d_M_clear_10 : decode b_M_clear 10 = .ok (.getfield 19, 3) := by decide +kernel
theorem d_M_clear_13 : decode b_M_clear 13 = .ok (.iload_n 1, 1) := by decide +kernel
theorem d_M_clear_14 : decode b_M_clear 14 = .ok (.iconst (-1), 1) := by decide +kernel
theorem d_M_clear_15 : decode b_M_clear 15 = .ok (.iastore, 1) := by decide +kernel
theorem d_M_clear_16 : decode b_M_clear 16 = .ok (.iconst 1, 1) := by decide +kernel
theorem d_M_clear_17 : decode b_M_clear 17 = .ok (.ireturn, 1) := by decide +kernel
set_option maxHeartbeats 4000000 in
set_option maxRecDepth 100000 in
theorem p_M_clear (l : Launch) (D : va_G) (dT : Nat → ClassId) (H : Heap) (mm : Nat → Nat) (tb : Nat → TR) (tc : Nat) (RV : Nat → Option VT) (hI : mI D dT mm tb tc RV H) (r : Int32) : Met l y_M_clear w_M_clear ({ frames := 1, cells := 0, slots := 0, locals := 20 }) (z_P D dT [.ref (mm 0), .int r] H) (z_Q (mA mm) (fun v H1 => v = some (.int (a_clear r)) ∧ mI D dT mm tb tc (v_clear RV r) H1)) 0 0 (mA mm) := by
  obtain ⟨wd, lf, rt, ty, F, sz, Wk, wz, dg, dc, sh, hM, hO, hT, hR, hWk⟩ := hI
  have hF := hR.1
  have htc := hO.1
  have htc10 := hO.2.1
  refine Met.ofW (cc := b_M_clear) (maxL := 2) (ret := (Option.some .boolean)) (by decide) rfl ?_
  intro p e s m args below meth c s₁ B hml hv
  obtain ⟨rfl, rfl, hK⟩ := hv
  have hx := B.exec
  have hb := B.bytes
  have hr := B.returns
  have hts := atoms_spec (ws := w_M_clear) B.pre
  have ht : ∀ w9 ∈ gt, w9.before [.ref (mm 0), .int r].toArray s = true := fun w9 h => hts w9 (List.mem_cons_of_mem _ h)
  have hown : s.vm.findClass "ValueTreesModel" = some m.cls := findClass_of_methodNamed B.named
  have hlocks := B.notSynchronized
  have hS : va_S (mA mm) s.heap s.heap [] := va_S.rf
  have hl := lv_entry ([.ref (mm 0), .int r]) (n := 2) (Nat.le_of_ble_eq_true rfl)
  rw [lg_entry_eq]
  generalize (lg_sl ([.ref (mm 0), .int r]) ++ List.replicate (2 - (lg_sl ([.ref (mm 0), .int r])).length) Slot.unset).toArray = ls at hl ⊢
  have hl : lv_has ls 2 [(0, .ref (mm 0)), (1, .int r)] := hl
  refine lv_iload_n hx hb d_M_clear_0 rfl (lv_at hl 1 rfl) ?_
  refine z_callR (va_runS (As := [.int r]) (rest := []) ⟨hx, hb, hml, hown, hts⟩ (c_M_isRegister l D dT _ r) ⟨callB_of 1 hts (gI gd_up gd_c q619) rfl rfl rfl (ht _ q10) (ht _ q617) hd_M_isRegister ⟨Nat.le_of_ble_eq_true rfl, Nat.le_of_ble_eq_true rfl⟩, ht _ q618⟩ (z_preS hK) rfl rfl hl.1 rfl (lv_room (Nat.le_of_ble_eq_true rfl)) d_M_clear_1 ⟨Nat.zero_le _, Nat.zero_le _⟩) (fun v2 hv1 => ?_)
  have hv1 : v2 = .int (if inR r then 1 else 0) := hv1
  rcases Classical.em (inR r) with hq3 | hq3
  · rw [if_pos hq3] at hv1
    subst hv1
    refine lv_if_ne (tgt := 9) hx hb d_M_clear_4 (by decide) (fun _ => ?_) (fun c4 => absurd c4 (by decide))
    obtain ⟨j, hj, rfl⟩ := inR_of hq3
    refine lv_aload_n hx hb d_M_clear_9 rfl (lv_at hl 0 rfl) ?_
    refine va_get (D := D) (ci := 10) (v := .ref (mm 4)) (C := "ValueTreesModel") (T := T_M) (N := 12) hx hb ht in_M hown hK.1 hM.1 0 rfl rfl 4 (by decide) (ht _ q543) (fun _ h9 => h9) rfl d_M_clear_10 ?_
    refine lv_iload_n hx hb d_M_clear_13 rfl (lv_at hl 1 rfl) ?_
    refine lv_iconst (v := (-1)) hx hb d_M_clear_14 (by decide) ?_
    refine m_ast_ty hx hb hK hM hS j rfl (by omega) d_M_clear_15 (fun H locs hM hS => ?_)
    have hM : mAt D dT mm wd lf rt tc (upd ty j (-1)) F sz Wk wz dg dc sh H := hM
    refine lv_iconst (v := 1) hx hb d_M_clear_16 (by decide) ?_
    exact z_zretQ hx hb hr hlocks d_M_clear_17 rfl hS (Nat.le_refl _) (Nat.le_refl _) (by unfold a_clear v_clear; rw [if_pos (inR_nI hj), if_pos (inR_nI hj), nI_clamp (by omega)]; exact ⟨rfl, _, _, _, _, _, _, _, _, _, _, _, hM, hO, hT, mR_clear hR j, hWk⟩)
  · rw [if_neg hq3] at hv1
    subst hv1
    refine lv_if_ne (tgt := 9) hx hb d_M_clear_4 (by decide) (fun c5 => absurd c5 (by decide)) (fun _ => ?_)
    refine lv_iconst (v := 0) hx hb d_M_clear_7 (by decide) ?_
    exact z_zretQ hx hb hr hlocks d_M_clear_8 rfl hS (Nat.le_refl _) (Nat.le_refl _) (by unfold a_clear v_clear; rw [if_neg hq3, if_neg hq3]; exact ⟨rfl, _, _, _, _, _, _, _, _, _, _, _, hM, hO, hT, hR, hWk⟩)
abbrev b_M_simple : ByteArray := prog_12_method_35_code
abbrev y_M_simple : MethodName := ⟨"ValueTreesModel", "simple", "(II)I"⟩
abbrev w_M_simple : List Cond := .code y_M_simple b_M_simple 3 (Option.some .int) :: gt
theorem hd_M_simple : (y_M_simple).cls ≠ "java/lang/invoke/MethodHandle" ∧ (y_M_simple).cls ≠ "java/lang/invoke/VarHandle" ∧ (parseMethodDescriptor (y_M_simple).desc).map (fun d => d.parameters.length) = some 2 := by decide +kernel
theorem d_M_simple_0 : decode b_M_simple 0 = .ok (.iload_n 1, 1) := by decide +kernel
theorem d_M_simple_1 : decode b_M_simple 1 = .ok (.invokestatic 66, 3) := by decide +kernel
theorem d_M_simple_4 : decode b_M_simple 4 = .ok (.ifCond .eq 12, 3) := by decide +kernel
theorem d_M_simple_7 : decode b_M_simple 7 = .ok (.iload_n 2, 1) := by decide +kernel
theorem d_M_simple_8 : decode b_M_simple 8 = .ok (.ifCond .lt 8, 3) := by decide +kernel
theorem d_M_simple_11 : decode b_M_simple 11 = .ok (.iload_n 2, 1) := by decide +kernel
theorem d_M_simple_12 : decode b_M_simple 12 = .ok (.iconst 2, 1) := by decide +kernel
theorem d_M_simple_13 : decode b_M_simple 13 = .ok (.if_icmp .le 5, 3) := by decide +kernel
theorem d_M_simple_16 : decode b_M_simple 16 = .ok (.iconst (-1), 1) := by decide +kernel
theorem d_M_simple_17 : decode b_M_simple 17 = .ok (.ireturn, 1) := by decide +kernel
theorem d_M_simple_18 : decode b_M_simple 18 = .ok (.aload_n 0, 1) := by decide +kernel
theorem d_M_simple_19 : decode b_M_simple 19 = .ok (.iconst 0, 1) := by decide +kernel
theorem d_M_simple_20 : decode b_M_simple 20 = .ok (.putfield 98, 3) := by decide +kernel
theorem d_M_simple_23 : decode b_M_simple 23 = .ok (.aload_n 0, 1) := by decide +kernel
theorem d_M_simple_24 : decode b_M_simple 24 = .ok (.iconst 3, 1) := by decide +kernel
theorem d_M_simple_25 : decode b_M_simple 25 = .ok (.invokevirtual 101, 3) := by decide +kernel
theorem d_M_simple_28 : decode b_M_simple 28 = .ok (.aload_n 0, 1) := by decide +kernel
theorem d_M_simple_29 : decode b_M_simple 29 = .ok (.iload_n 2, 1) := by decide +kernel
theorem d_M_simple_30 : decode b_M_simple 30 = .ok (.ifCond .ne 8, 3) := by decide +kernel
theorem d_M_simple_33 : decode b_M_simple 33 = .ok (.bipush 11, 2) := by decide +kernel
theorem d_M_simple_35 : decode b_M_simple 35 = .ok (.goto 14, 3) := by decide +kernel
theorem d_M_simple_38 : decode b_M_simple 38 = .ok (.iload_n 2, 1) := by decide +kernel
theorem d_M_simple_39 : decode b_M_simple 39 = .ok (.iconst 1, 1) := by decide +kernel
theorem d_M_simple_40 : decode b_M_simple 40 = .ok (.if_icmp .ne 7, 3) := by decide +kernel
theorem d_M_simple_43 : decode b_M_simple 43 = .ok (.iconst 3, 1) := by decide +kernel
theorem d_M_simple_44 : decode b_M_simple 44 = .ok (.goto 5, 3) := by decide +kernel
theorem d_M_simple_47 : decode b_M_simple 47 = .ok (.bipush 10, 2) := by decide +kernel
theorem d_M_simple_49 : decode b_M_simple 49 = .ok (.invokevirtual 101, 3) := by decide +kernel
theorem d_M_simple_52 : decode b_M_simple 52 = .ok (.aload_n 0, 1) := by decide +kernel
theorem d_M_simple_53 : decode b_M_simple 53 = .ok (.iload_n 1, 1) := by decide +kernel
theorem d_M_simple_54 : decode b_M_simple 54 = .ok (.iload_n 2, 1) := by decide +kernel
theorem d_M_simple_55 : decode b_M_simple 55 = .ok (.ifCond .ne 7, 3) := by decide +kernel
theorem d_M_simple_58 : decode b_M_simple 58 = .ok (.iconst 0, 1) := by decide +kernel
theorem d_M_simple_59 : decode b_M_simple 59 = .ok (.goto 4, 3) := by decide +kernel
theorem d_M_simple_62 : decode b_M_simple 62 = .ok (.iconst 1, 1) := by decide +kernel
theorem d_M_simple_63 : decode b_M_simple 63 = .ok (.invokevirtual 121, 3) := by decide +kernel
theorem d_M_simple_66 : decode b_M_simple 66 = .ok (.ireturn, 1) := by decide +kernel
set_option maxHeartbeats 4000000 in
set_option maxRecDepth 100000 in
theorem p_M_simple (l : Launch) (D : va_G) (dT : Nat → ClassId) (H : Heap) (mm : Nat → Nat) (tb : Nat → TR) (tc : Nat) (RV : Nat → Option VT) (hI : mI D dT mm tb tc RV H) (r w : Int32) : Met l y_M_simple w_M_simple ({ frames := 2, cells := 0, slots := 0, locals := 43 }) (z_P D dT [.ref (mm 0), .int r, .int w] H) (z_Q (mA mm) (fun v H1 => v = some (.int (kp RV r (o_simple w)).1) ∧ mI D dT mm tb tc (kp RV r (o_simple w)).2 H1)) 0 0 (mA mm) := by
  obtain ⟨wd, lf, rt, ty, F, sz, Wk, wz, dg, dc, sh, hM, hO, hT, hR, hWk⟩ := hI
  have hF := hR.1
  have htc := hO.1
  have htc10 := hO.2.1
  refine Met.ofW (cc := b_M_simple) (maxL := 3) (ret := (Option.some .int)) (by decide) rfl ?_
  intro p e s m args below meth c s₁ B hml hv
  obtain ⟨rfl, rfl, hK⟩ := hv
  have hx := B.exec
  have hb := B.bytes
  have hr := B.returns
  have hts := atoms_spec (ws := w_M_simple) B.pre
  have ht : ∀ w9 ∈ gt, w9.before [.ref (mm 0), .int r, .int w].toArray s = true := fun w9 h => hts w9 (List.mem_cons_of_mem _ h)
  have hown : s.vm.findClass "ValueTreesModel" = some m.cls := findClass_of_methodNamed B.named
  have hlocks := B.notSynchronized
  have hS : va_S (mA mm) s.heap s.heap [] := va_S.rf
  have hl := lv_entry ([.ref (mm 0), .int r, .int w]) (n := 3) (Nat.le_of_ble_eq_true rfl)
  rw [lg_entry_eq]
  generalize (lg_sl ([.ref (mm 0), .int r, .int w]) ++ List.replicate (3 - (lg_sl ([.ref (mm 0), .int r, .int w])).length) Slot.unset).toArray = ls at hl ⊢
  have hl : lv_has ls 3 [(0, .ref (mm 0)), (1, .int r), (2, .int w)] := hl
  refine lv_iload_n hx hb d_M_simple_0 rfl (lv_at hl 1 rfl) ?_
  refine z_callR (va_runS (As := [.int r]) (rest := []) ⟨hx, hb, hml, hown, hts⟩ (c_M_isRegister l D dT _ r) ⟨callB_of 1 hts (gI gd_up gd_c q619) rfl rfl rfl (ht _ q10) (ht _ q617) hd_M_isRegister ⟨Nat.le_of_ble_eq_true rfl, Nat.le_of_ble_eq_true rfl⟩, ht _ q618⟩ (z_preS hK) rfl rfl hl.1 rfl (lv_room (Nat.le_of_ble_eq_true rfl)) d_M_simple_1 ⟨Nat.zero_le _, Nat.zero_le _⟩) (fun v2 hv1 => ?_)
  have hv1 : v2 = .int (if inR r then 1 else 0) := hv1
  rcases Classical.em (inR r) with hq3 | hq3
  · rw [if_pos hq3] at hv1
    subst hv1
    refine lv_if_eq (tgt := 16) hx hb d_M_simple_4 (by decide) (fun c4 => absurd c4 (by decide)) (fun _ => ?_)
    refine lv_iload_n hx hb d_M_simple_7 rfl (lv_at hl 2 rfl) ?_
    refine lv_if_lt (tgt := 16) hx hb d_M_simple_8 (by decide) (fun c5 => ?_) (fun c5 => ?_)
    · refine lv_iconst (v := (-1)) hx hb d_M_simple_16 (by decide) ?_
      exact z_iretQ hx hb hr hlocks d_M_simple_17 hS (Nat.le_refl _) (Nat.le_refl _) (by rw [show kp RV r (o_simple w) = (-1, RV) from (by rw [show o_simple w = none from (by unfold o_simple; repeat (first | rfl | rw [if_neg (by (revert c5; simp only [inR, isNum, isRw, isTr, hasV, Int32.lt_iff_toInt_lt, Int32.le_iff_toInt_le, ← Int32.toInt_inj, Int32.reduceToInt, z_m1, z_m2]; (try intros); omega))]))]; rfl)]; exact ⟨rfl, _, _, _, _, _, _, _, _, _, _, _, hM, hO, hT, hR, hWk⟩)
    · refine lv_iload_n hx hb d_M_simple_11 rfl (lv_at hl 2 rfl) ?_
      refine lv_iconst (v := 2) hx hb d_M_simple_12 (by decide) ?_
      refine lv_icmp_le (tgt := 18) hx hb d_M_simple_13 (by decide) (fun c6 => ?_) (fun c6 => ?_)
      · obtain ⟨j, hj, rfl⟩ := inR_of hq3
        refine lv_aload_n hx hb d_M_simple_18 rfl (lv_at hl 0 rfl) ?_
        refine lv_iconst (v := 0) hx hb d_M_simple_19 (by decide) ?_
        refine m_put_wz hx hb ht hown hK hM hS (ht _ q547) 0 rfl d_M_simple_20 (fun H locs hM hS => ?_)
        have hM : mAt D dT mm wd lf rt tc ty F sz Wk 0 dg dc sh H := hM
        have hW : wAt Wk ([] : List Nat) := wAt_nil hWk
        have hM : mAt D dT mm wd lf rt tc ty F sz Wk (([] : List Nat).length) dg dc sh H := hM
        refine lv_aload_n hx hb d_M_simple_23 rfl (lv_at hl 0 rfl) ?_
        refine lv_iconst (v := 3) hx hb d_M_simple_24 (by decide) ?_
        refine z_callQ (va_runV (C := "ValueTreesModel") (As := [.int 3]) (rest := []) ⟨hx, hb, hml, hown, hts⟩ (c_M_lay l D dT _ mm wd lf rt tc ty F sz Wk ([] : List Nat) dg dc sh hM hW 3 (by (try simp only [List.length_append, List.length_cons, List.length_nil, size4_len]); omega)) ⟨callB_of 1 hts (gI gd_up gd_c q635) rfl rfl rfl (ht _ q10) (ht _ q632) hd_M_lay ⟨Nat.le_of_ble_eq_true rfl, Nat.le_of_ble_eq_true rfl⟩, ht _ q634, ht _ qs22⟩ (z_preV hK (va_recv hK.1 hM.1 (ci := 10) (q0 := 0) rfl rfl)) rfl rfl hl.1 rfl (lv_room (Nat.le_of_ble_eq_true rfl)) d_M_simple_25 ⟨Nat.le_refl _, Nat.le_refl _⟩) hS (fun _ h9 => h9) (fun v8 H locs hv7 hz9 hf10 hS => ?_)
        obtain ⟨rfl, Wk, hW, hWk11, hM⟩ := hv7
        refine W.eq (g2 := F0 m 28 ls []) rfl ?_
        refine lv_aload_n hx hb d_M_simple_28 rfl (lv_at hl 0 rfl) ?_
        refine lv_iload_n hx hb d_M_simple_29 rfl (lv_at hl 2 rfl) ?_
        refine lv_if_ne (tgt := 38) hx hb d_M_simple_30 (by decide) (fun c12 => ?_) (fun c12 => ?_)
        · refine lv_iload_n hx hb d_M_simple_38 rfl (lv_at hl 2 rfl) ?_
          refine lv_iconst (v := 1) hx hb d_M_simple_39 (by decide) ?_
          refine lv_icmp_ne (tgt := 47) hx hb d_M_simple_40 (by decide) (fun c13 => ?_) (fun c13 => ?_)
          · refine lv_bipush (v := 10) hx hb d_M_simple_47 (by decide) ?_
            refine z_callQ (va_runV (C := "ValueTreesModel") (As := [.int 10]) (rest := []) ⟨hx, hb, hml, hown, hts⟩ (c_M_lay l D dT _ mm wd lf rt tc ty F sz Wk (([] : List Nat) ++ [3 % 256]) dg dc sh hM hW 10 (by (try simp only [List.length_append, List.length_cons, List.length_nil, size4_len]); omega)) ⟨callB_of 1 hts (gI gd_up gd_c q635) rfl rfl rfl (ht _ q10) (ht _ q632) hd_M_lay ⟨Nat.le_of_ble_eq_true rfl, Nat.le_of_ble_eq_true rfl⟩, ht _ q634, ht _ qs22⟩ (z_preV hK (va_recv hK.1 hM.1 (ci := 10) (q0 := 0) rfl rfl)) rfl rfl hl.1 rfl (lv_room (Nat.le_of_ble_eq_true rfl)) d_M_simple_49 ⟨Nat.le_refl _, Nat.le_refl _⟩) hS (fun _ h9 => h9) (fun v15 H locs hv14 hz16 hf17 hS => ?_)
            obtain ⟨rfl, Wk, hW, hWk18, hM⟩ := hv14
            refine W.eq (g2 := F0 m 52 ls []) rfl ?_
            refine lv_aload_n hx hb d_M_simple_52 rfl (lv_at hl 0 rfl) ?_
            refine lv_iload_n hx hb d_M_simple_53 rfl (lv_at hl 1 rfl) ?_
            refine lv_iload_n hx hb d_M_simple_54 rfl (lv_at hl 2 rfl) ?_
            refine lv_if_ne (tgt := 62) hx hb d_M_simple_55 (by decide) (fun c19 => ?_) (fun c19 => absurd c19 c12)
            refine lv_iconst (v := 1) hx hb d_M_simple_62 (by decide) ?_
            have ebs : ([] : List Nat) ++ [3 % 256] ++ [10 % 256] = cs (.pow (.var 2) 1) := rfl
            rw [ebs] at hW hM
            refine z_callQ (va_runV (C := "ValueTreesModel") (As := [.int (nI j), .int 1]) (rest := []) ⟨hx, hb, hml, hown, hts⟩ (c_M_keep l D dT _ mm wd lf rt tc ty F sz Wk (cs (.pow (.var 2) 1)) dg dc sh hM hW j 1 hj (by rw [← ebs]; simp only [List.length_append, List.length_cons, List.length_nil, size4_len]; omega)) ⟨callB_of 2 hts (gI gd_up gd_c q647) rfl rfl rfl (ht _ q10) (ht _ q644) hd_M_keep ⟨Nat.le_of_ble_eq_true rfl, Nat.le_of_ble_eq_true rfl⟩, ht _ q646, ht _ qs25⟩ (z_preV hK (va_recv hK.1 hM.1 (ci := 10) (q0 := 0) rfl rfl)) rfl rfl hl.1 rfl (lv_room (Nat.le_of_ble_eq_true rfl)) d_M_simple_63 ⟨Nat.le_refl _, Nat.le_refl _⟩) hS (fun _ h9 => h9) (fun v21 H locs hv20 hz22 hf23 hS => ?_)
            rcases hv20 with ⟨hk1, rfl, hM⟩ | ⟨hk1, rfl, hM⟩
            · refine W.eq (g2 := F0 m 66 ls [.int (-2)]) rfl ?_
              exact z_iretQ hx hb hr hlocks d_M_simple_66 hS (Nat.le_refl _) (Nat.le_refl _) (by rw [show o_simple w = some (.pow (.var 2) 1) from (by unfold o_simple; repeat (first | rfl | rw [if_pos (by (revert c5 c6 c12 c13 c19; simp only [inR, isNum, isRw, isTr, hasV, Int32.lt_iff_toInt_lt, Int32.le_iff_toInt_le, ← Int32.toInt_inj, Int32.reduceToInt, z_m1, z_m2]; (try intros); omega))] | rw [if_neg (by (revert c5 c6 c12 c13 c19; simp only [inR, isNum, isRw, isTr, hasV, Int32.lt_iff_toInt_lt, Int32.le_iff_toInt_le, ← Int32.toInt_inj, Int32.reduceToInt, z_m1, z_m2]; (try intros); omega))]))]; exact kO_done ⟨_, _, _, _, _, hW.1, Or.inl ⟨hk1, rfl, hM⟩⟩ hO hT hR hj (by omega) ⟨rfl, rfl, rfl, Or.inr (Or.inl ⟨((hO.2.2 1 (by omega)).2.2.1 (by decide)), Or.inr rfl⟩)⟩)
            · refine W.eq (g2 := F0 m 66 ls [.int (nI (cs (.pow (.var 2) 1)).length)]) rfl ?_
              exact z_iretQ hx hb hr hlocks d_M_simple_66 hS (Nat.le_refl _) (Nat.le_refl _) (by rw [show o_simple w = some (.pow (.var 2) 1) from (by unfold o_simple; repeat (first | rfl | rw [if_pos (by (revert c5 c6 c12 c13 c19; simp only [inR, isNum, isRw, isTr, hasV, Int32.lt_iff_toInt_lt, Int32.le_iff_toInt_le, ← Int32.toInt_inj, Int32.reduceToInt, z_m1, z_m2]; (try intros); omega))] | rw [if_neg (by (revert c5 c6 c12 c13 c19; simp only [inR, isNum, isRw, isTr, hasV, Int32.lt_iff_toInt_lt, Int32.le_iff_toInt_le, ← Int32.toInt_inj, Int32.reduceToInt, z_m1, z_m2]; (try intros); omega))]))]; exact kO_done ⟨_, _, _, _, _, hW.1, Or.inr ⟨hk1, rfl, hM⟩⟩ hO hT hR hj (by omega) ⟨rfl, rfl, rfl, Or.inr (Or.inl ⟨((hO.2.2 1 (by omega)).2.2.1 (by decide)), Or.inr rfl⟩)⟩)
          · refine lv_iconst (v := 3) hx hb d_M_simple_43 (by decide) ?_
            refine lv_goto (tgt := 49) hx hb d_M_simple_44 (by decide) ?_
            refine z_callQ (va_runV (C := "ValueTreesModel") (As := [.int 3]) (rest := []) ⟨hx, hb, hml, hown, hts⟩ (c_M_lay l D dT _ mm wd lf rt tc ty F sz Wk (([] : List Nat) ++ [3 % 256]) dg dc sh hM hW 3 (by (try simp only [List.length_append, List.length_cons, List.length_nil, size4_len]); omega)) ⟨callB_of 1 hts (gI gd_up gd_c q635) rfl rfl rfl (ht _ q10) (ht _ q632) hd_M_lay ⟨Nat.le_of_ble_eq_true rfl, Nat.le_of_ble_eq_true rfl⟩, ht _ q634, ht _ qs22⟩ (z_preV hK (va_recv hK.1 hM.1 (ci := 10) (q0 := 0) rfl rfl)) rfl rfl hl.1 rfl (lv_room (Nat.le_of_ble_eq_true rfl)) d_M_simple_49 ⟨Nat.le_refl _, Nat.le_refl _⟩) hS (fun _ h9 => h9) (fun v25 H locs hv24 hz26 hf27 hS => ?_)
            obtain ⟨rfl, Wk, hW, hWk28, hM⟩ := hv24
            refine W.eq (g2 := F0 m 52 ls []) rfl ?_
            refine lv_aload_n hx hb d_M_simple_52 rfl (lv_at hl 0 rfl) ?_
            refine lv_iload_n hx hb d_M_simple_53 rfl (lv_at hl 1 rfl) ?_
            refine lv_iload_n hx hb d_M_simple_54 rfl (lv_at hl 2 rfl) ?_
            refine lv_if_ne (tgt := 62) hx hb d_M_simple_55 (by decide) (fun c29 => ?_) (fun c29 => absurd c29 c12)
            refine lv_iconst (v := 1) hx hb d_M_simple_62 (by decide) ?_
            have ebs : ([] : List Nat) ++ [3 % 256] ++ [3 % 256] = cs (.pow (.var 1) 1) := rfl
            rw [ebs] at hW hM
            refine z_callQ (va_runV (C := "ValueTreesModel") (As := [.int (nI j), .int 1]) (rest := []) ⟨hx, hb, hml, hown, hts⟩ (c_M_keep l D dT _ mm wd lf rt tc ty F sz Wk (cs (.pow (.var 1) 1)) dg dc sh hM hW j 1 hj (by rw [← ebs]; simp only [List.length_append, List.length_cons, List.length_nil, size4_len]; omega)) ⟨callB_of 2 hts (gI gd_up gd_c q647) rfl rfl rfl (ht _ q10) (ht _ q644) hd_M_keep ⟨Nat.le_of_ble_eq_true rfl, Nat.le_of_ble_eq_true rfl⟩, ht _ q646, ht _ qs25⟩ (z_preV hK (va_recv hK.1 hM.1 (ci := 10) (q0 := 0) rfl rfl)) rfl rfl hl.1 rfl (lv_room (Nat.le_of_ble_eq_true rfl)) d_M_simple_63 ⟨Nat.le_refl _, Nat.le_refl _⟩) hS (fun _ h9 => h9) (fun v31 H locs hv30 hz32 hf33 hS => ?_)
            rcases hv30 with ⟨hk1, rfl, hM⟩ | ⟨hk1, rfl, hM⟩
            · refine W.eq (g2 := F0 m 66 ls [.int (-2)]) rfl ?_
              exact z_iretQ hx hb hr hlocks d_M_simple_66 hS (Nat.le_refl _) (Nat.le_refl _) (by rw [show o_simple w = some (.pow (.var 1) 1) from (by unfold o_simple; repeat (first | rfl | rw [if_pos (by (revert c5 c6 c12 c13 c29; simp only [inR, isNum, isRw, isTr, hasV, Int32.lt_iff_toInt_lt, Int32.le_iff_toInt_le, ← Int32.toInt_inj, Int32.reduceToInt, z_m1, z_m2]; (try intros); omega))] | rw [if_neg (by (revert c5 c6 c12 c13 c29; simp only [inR, isNum, isRw, isTr, hasV, Int32.lt_iff_toInt_lt, Int32.le_iff_toInt_le, ← Int32.toInt_inj, Int32.reduceToInt, z_m1, z_m2]; (try intros); omega))]))]; exact kO_done ⟨_, _, _, _, _, hW.1, Or.inl ⟨hk1, rfl, hM⟩⟩ hO hT hR hj (by omega) ⟨rfl, rfl, rfl, Or.inr (Or.inl ⟨((hO.2.2 1 (by omega)).2.2.1 (by decide)), Or.inl rfl⟩)⟩)
            · refine W.eq (g2 := F0 m 66 ls [.int (nI (cs (.pow (.var 1) 1)).length)]) rfl ?_
              exact z_iretQ hx hb hr hlocks d_M_simple_66 hS (Nat.le_refl _) (Nat.le_refl _) (by rw [show o_simple w = some (.pow (.var 1) 1) from (by unfold o_simple; repeat (first | rfl | rw [if_pos (by (revert c5 c6 c12 c13 c29; simp only [inR, isNum, isRw, isTr, hasV, Int32.lt_iff_toInt_lt, Int32.le_iff_toInt_le, ← Int32.toInt_inj, Int32.reduceToInt, z_m1, z_m2]; (try intros); omega))] | rw [if_neg (by (revert c5 c6 c12 c13 c29; simp only [inR, isNum, isRw, isTr, hasV, Int32.lt_iff_toInt_lt, Int32.le_iff_toInt_le, ← Int32.toInt_inj, Int32.reduceToInt, z_m1, z_m2]; (try intros); omega))]))]; exact kO_done ⟨_, _, _, _, _, hW.1, Or.inr ⟨hk1, rfl, hM⟩⟩ hO hT hR hj (by omega) ⟨rfl, rfl, rfl, Or.inr (Or.inl ⟨((hO.2.2 1 (by omega)).2.2.1 (by decide)), Or.inl rfl⟩)⟩)
        · refine lv_bipush (v := 11) hx hb d_M_simple_33 (by decide) ?_
          refine lv_goto (tgt := 49) hx hb d_M_simple_35 (by decide) ?_
          refine z_callQ (va_runV (C := "ValueTreesModel") (As := [.int 11]) (rest := []) ⟨hx, hb, hml, hown, hts⟩ (c_M_lay l D dT _ mm wd lf rt tc ty F sz Wk (([] : List Nat) ++ [3 % 256]) dg dc sh hM hW 11 (by (try simp only [List.length_append, List.length_cons, List.length_nil, size4_len]); omega)) ⟨callB_of 1 hts (gI gd_up gd_c q635) rfl rfl rfl (ht _ q10) (ht _ q632) hd_M_lay ⟨Nat.le_of_ble_eq_true rfl, Nat.le_of_ble_eq_true rfl⟩, ht _ q634, ht _ qs22⟩ (z_preV hK (va_recv hK.1 hM.1 (ci := 10) (q0 := 0) rfl rfl)) rfl rfl hl.1 rfl (lv_room (Nat.le_of_ble_eq_true rfl)) d_M_simple_49 ⟨Nat.le_refl _, Nat.le_refl _⟩) hS (fun _ h9 => h9) (fun v35 H locs hv34 hz36 hf37 hS => ?_)
          obtain ⟨rfl, Wk, hW, hWk38, hM⟩ := hv34
          refine W.eq (g2 := F0 m 52 ls []) rfl ?_
          refine lv_aload_n hx hb d_M_simple_52 rfl (lv_at hl 0 rfl) ?_
          refine lv_iload_n hx hb d_M_simple_53 rfl (lv_at hl 1 rfl) ?_
          refine lv_iload_n hx hb d_M_simple_54 rfl (lv_at hl 2 rfl) ?_
          refine lv_if_ne (tgt := 62) hx hb d_M_simple_55 (by decide) (fun c39 => absurd c12 c39) (fun c39 => ?_)
          refine lv_iconst (v := 0) hx hb d_M_simple_58 (by decide) ?_
          refine lv_goto (tgt := 63) hx hb d_M_simple_59 (by decide) ?_
          have ebs : ([] : List Nat) ++ [3 % 256] ++ [11 % 256] = cs (.pow (.var 0) 0) := rfl
          rw [ebs] at hW hM
          refine z_callQ (va_runV (C := "ValueTreesModel") (As := [.int (nI j), .int 0]) (rest := []) ⟨hx, hb, hml, hown, hts⟩ (c_M_keep l D dT _ mm wd lf rt tc ty F sz Wk (cs (.pow (.var 0) 0)) dg dc sh hM hW j 0 hj (by rw [← ebs]; simp only [List.length_append, List.length_cons, List.length_nil, size4_len]; omega)) ⟨callB_of 2 hts (gI gd_up gd_c q647) rfl rfl rfl (ht _ q10) (ht _ q644) hd_M_keep ⟨Nat.le_of_ble_eq_true rfl, Nat.le_of_ble_eq_true rfl⟩, ht _ q646, ht _ qs25⟩ (z_preV hK (va_recv hK.1 hM.1 (ci := 10) (q0 := 0) rfl rfl)) rfl rfl hl.1 rfl (lv_room (Nat.le_of_ble_eq_true rfl)) d_M_simple_63 ⟨Nat.le_refl _, Nat.le_refl _⟩) hS (fun _ h9 => h9) (fun v41 H locs hv40 hz42 hf43 hS => ?_)
          rcases hv40 with ⟨hk1, rfl, hM⟩ | ⟨hk1, rfl, hM⟩
          · refine W.eq (g2 := F0 m 66 ls [.int (-2)]) rfl ?_
            exact z_iretQ hx hb hr hlocks d_M_simple_66 hS (Nat.le_refl _) (Nat.le_refl _) (by rw [show o_simple w = some (.pow (.var 0) 0) from (by unfold o_simple; repeat (first | rfl | rw [if_pos (by (revert c5 c6 c12 c39; simp only [inR, isNum, isRw, isTr, hasV, Int32.lt_iff_toInt_lt, Int32.le_iff_toInt_le, ← Int32.toInt_inj, Int32.reduceToInt, z_m1, z_m2]; (try intros); omega))] | rw [if_neg (by (revert c5 c6 c12 c39; simp only [inR, isNum, isRw, isTr, hasV, Int32.lt_iff_toInt_lt, Int32.le_iff_toInt_le, ← Int32.toInt_inj, Int32.reduceToInt, z_m1, z_m2]; (try intros); omega))]))]; exact kO_done ⟨_, _, _, _, _, hW.1, Or.inl ⟨hk1, rfl, hM⟩⟩ hO hT hR hj (by omega) ⟨rfl, rfl, rfl, Or.inl ⟨((hO.2.2 0 (by omega)).2.2.1 (by decide)), rfl⟩⟩)
          · refine W.eq (g2 := F0 m 66 ls [.int (nI (cs (.pow (.var 0) 0)).length)]) rfl ?_
            exact z_iretQ hx hb hr hlocks d_M_simple_66 hS (Nat.le_refl _) (Nat.le_refl _) (by rw [show o_simple w = some (.pow (.var 0) 0) from (by unfold o_simple; repeat (first | rfl | rw [if_pos (by (revert c5 c6 c12 c39; simp only [inR, isNum, isRw, isTr, hasV, Int32.lt_iff_toInt_lt, Int32.le_iff_toInt_le, ← Int32.toInt_inj, Int32.reduceToInt, z_m1, z_m2]; (try intros); omega))] | rw [if_neg (by (revert c5 c6 c12 c39; simp only [inR, isNum, isRw, isTr, hasV, Int32.lt_iff_toInt_lt, Int32.le_iff_toInt_le, ← Int32.toInt_inj, Int32.reduceToInt, z_m1, z_m2]; (try intros); omega))]))]; exact kO_done ⟨_, _, _, _, _, hW.1, Or.inr ⟨hk1, rfl, hM⟩⟩ hO hT hR hj (by omega) ⟨rfl, rfl, rfl, Or.inl ⟨((hO.2.2 0 (by omega)).2.2.1 (by decide)), rfl⟩⟩)
      · refine lv_iconst (v := (-1)) hx hb d_M_simple_16 (by decide) ?_
        exact z_iretQ hx hb hr hlocks d_M_simple_17 hS (Nat.le_refl _) (Nat.le_refl _) (by rw [show kp RV r (o_simple w) = (-1, RV) from (by rw [show o_simple w = none from (by unfold o_simple; repeat (first | rfl | rw [if_neg (by (revert c5 c6; simp only [inR, isNum, isRw, isTr, hasV, Int32.lt_iff_toInt_lt, Int32.le_iff_toInt_le, ← Int32.toInt_inj, Int32.reduceToInt, z_m1, z_m2]; (try intros); omega))]))]; rfl)]; exact ⟨rfl, _, _, _, _, _, _, _, _, _, _, _, hM, hO, hT, hR, hWk⟩)
  · rw [if_neg hq3] at hv1
    subst hv1
    refine lv_if_eq (tgt := 16) hx hb d_M_simple_4 (by decide) (fun _ => ?_) (fun c44 => absurd c44 (by decide))
    refine lv_iconst (v := (-1)) hx hb d_M_simple_16 (by decide) ?_
    exact z_iretQ hx hb hr hlocks d_M_simple_17 hS (Nat.le_refl _) (Nat.le_refl _) (by rw [kp_out hq3]; exact ⟨rfl, _, _, _, _, _, _, _, _, _, _, _, hM, hO, hT, hR, hWk⟩)
