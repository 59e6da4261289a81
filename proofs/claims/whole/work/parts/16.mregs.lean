abbrev b_M_hasValue : ByteArray := prog_12_method_12_code
abbrev y_M_hasValue : MethodName := ⟨"ValueTreesModel", "hasValue", "(I)Z"⟩
abbrev w_M_hasValue : List Cond := .code y_M_hasValue b_M_hasValue 2 (Option.some .boolean) :: gt
theorem hd_M_hasValue : (y_M_hasValue).cls ≠ "java/lang/invoke/MethodHandle" ∧ (y_M_hasValue).cls ≠ "java/lang/invoke/VarHandle" ∧ (parseMethodDescriptor (y_M_hasValue).desc).map (fun d => d.parameters.length) = some 1 := by decide +kernel
theorem d_M_hasValue_0 : decode b_M_hasValue 0 = .ok (.iload_n 1, 1) := by decide +kernel
theorem d_M_hasValue_1 : decode b_M_hasValue 1 = .ok (.invokestatic 66, 3) := by decide +kernel
theorem d_M_hasValue_4 : decode b_M_hasValue 4 = .ok (.ifCond .eq 16, 3) := by decide +kernel
theorem d_M_hasValue_7 : decode b_M_hasValue 7 = .ok (.aload_n 0, 1) := by decide +kernel
theorem d_M_hasValue_8 : decode b_M_hasValue 8 = .ok (.getfield 19, 3) := by decide +kernel
theorem d_M_hasValue_11 : decode b_M_hasValue 11 = .ok (.iload_n 1, 1) := by decide +kernel
theorem d_M_hasValue_12 : decode b_M_hasValue 12 = .ok (.iaload, 1) := by decide +kernel
theorem d_M_hasValue_13 : decode b_M_hasValue 13 = .ok (.ifCond .lt 7, 3) := by decide +kernel
theorem d_M_hasValue_16 : decode b_M_hasValue 16 = .ok (.iconst 1, 1) := by decide +kernel
theorem d_M_hasValue_17 : decode b_M_hasValue 17 = .ok (.goto 4, 3) := by decide +kernel
theorem d_M_hasValue_20 : decode b_M_hasValue 20 = .ok (.iconst 0, 1) := by decide +kernel
theorem d_M_hasValue_21 : decode b_M_hasValue 21 = .ok (.ireturn, 1) := by decide +kernel
set_option maxHeartbeats 4000000 in
set_option maxRecDepth 100000 in
theorem c_M_hasValue (l : Launch) (D : va_G) (dT : Nat → ClassId) (H : Heap) (mm : Nat → Nat) (wd lf rt : Nat → Int32) (tc : Nat) (ty : Nat → Int32) (F : Nat → Nat) (sz : Nat → Int32) (Wk : Nat → Nat) (wz : Nat) (dg : Nat → Nat) (dc : Nat) (sh : Nat → Nat) (hM : mAt D dT mm wd lf rt tc ty F sz Wk wz dg dc sh H) (tb : Nat → TR) (hO : tOK tb tc) (hT : mT tb tc wd lf rt) (RV : Nat → Option VT) (hR : mR tc tb ty sz F RV) (r : Int32) : Met l y_M_hasValue w_M_hasValue ({ frames := 1, cells := 0, slots := 0, locals := 20 }) (z_P D dT [.ref (mm 0), .int r] H) (z_R (fun v => v = .int (if (rgs RV r).isSome = true then 1 else 0))) 0 0 (fun _ => False) := by
  refine Met.ofW (cc := b_M_hasValue) (maxL := 2) (ret := (Option.some .boolean)) (by decide) rfl ?_
  intro p e s m args below meth c s₁ B hml hv
  obtain ⟨rfl, rfl, hK⟩ := hv
  have hx := B.exec
  have hb := B.bytes
  have hr := B.returns
  have hts := atoms_spec (ws := w_M_hasValue) B.pre
  have ht : ∀ w9 ∈ gt, w9.before [.ref (mm 0), .int r].toArray s = true := fun w9 h => hts w9 (List.mem_cons_of_mem _ h)
  have hown : s.vm.findClass "ValueTreesModel" = some m.cls := findClass_of_methodNamed B.named
  have hlocks := B.notSynchronized
  have hl := lv_entry ([.ref (mm 0), .int r]) (n := 2) (Nat.le_of_ble_eq_true rfl)
  rw [lg_entry_eq]
  generalize (lg_sl ([.ref (mm 0), .int r]) ++ List.replicate (2 - (lg_sl ([.ref (mm 0), .int r])).length) Slot.unset).toArray = ls at hl ⊢
  have hl : lv_has ls 2 [(0, .ref (mm 0)), (1, .int r)] := hl
  have htc := hO.1
  refine lv_iload_n hx hb d_M_hasValue_0 rfl (lv_at hl 1 rfl) ?_
  refine z_callR (va_runS (As := [.int r]) (rest := []) ⟨hx, hb, hml, hown, hts⟩ (c_M_isRegister l D dT _ r) ⟨callB_of 1 hts (gI gd_up gd_c q619) rfl rfl rfl (ht _ q10) (ht _ q617) hd_M_isRegister ⟨Nat.le_of_ble_eq_true rfl, Nat.le_of_ble_eq_true rfl⟩, ht _ q618⟩ (z_preS hK) rfl rfl hl.1 rfl (lv_room (Nat.le_of_ble_eq_true rfl)) d_M_hasValue_1 ⟨Nat.zero_le _, Nat.zero_le _⟩) (fun v2 hv1 => ?_)
  have hv1 : v2 = .int (if inR r then 1 else 0) := hv1
  rcases Classical.em (inR r) with hq3 | hq3
  · rw [if_pos hq3] at hv1
    subst hv1
    refine lv_if_eq (tgt := 20) hx hb d_M_hasValue_4 (by decide) (fun c4 => absurd c4 (by decide)) (fun _ => ?_)
    obtain ⟨j, hj, rfl⟩ := inR_of hq3
    have hnj := (hR.2 j hj).1
    cases hV : RV j with
    | none =>
      have et : ty j = -1 := hnj hV
      refine lv_aload_n hx hb d_M_hasValue_7 rfl (lv_at hl 0 rfl) ?_
      refine va_get (D := D) (ci := 10) (v := .ref (mm 4)) (C := "ValueTreesModel") (T := T_M) (N := 12) hx hb ht in_M hown hK.1 hM.1 0 rfl rfl 4 (by decide) (ht _ q543) (fun _ h9 => h9) rfl d_M_hasValue_8 ?_
      refine lv_iload_n hx hb d_M_hasValue_11 rfl (lv_at hl 1 rfl) ?_
      refine z_iald hx hb hK (hM.1 4 _ rfl) j rfl (by omega) (by decide) d_M_hasValue_12 ?_
      rw [et]
      refine lv_if_lt (tgt := 20) hx hb d_M_hasValue_13 (by decide) (fun _ => ?_) (fun c5 => absurd c5 (by decide))
      refine lv_iconst (v := 0) hx hb d_M_hasValue_20 (by decide) ?_
      exact z_zretR hx hb hr hlocks d_M_hasValue_21 rfl (by rw [rgs_nI hj, hV]; rfl)
    | some v =>
      obtain ⟨hty, et, hw, es, hn, hf⟩ := mR_some hR hj hV
      refine lv_aload_n hx hb d_M_hasValue_7 rfl (lv_at hl 0 rfl) ?_
      refine va_get (D := D) (ci := 10) (v := .ref (mm 4)) (C := "ValueTreesModel") (T := T_M) (N := 12) hx hb ht in_M hown hK.1 hM.1 0 rfl rfl 4 (by decide) (ht _ q543) (fun _ h9 => h9) rfl d_M_hasValue_8 ?_
      refine lv_iload_n hx hb d_M_hasValue_11 rfl (lv_at hl 1 rfl) ?_
      refine z_iald hx hb hK (hM.1 4 _ rfl) j rfl (by omega) (by decide) d_M_hasValue_12 ?_
      rw [et]
      refine lv_if_lt (tgt := 20) hx hb d_M_hasValue_13 (by decide) (fun c6 => absurd c6 (nI_pos (by omega))) (fun c6 => ?_)
      refine lv_iconst (v := 1) hx hb d_M_hasValue_16 (by decide) ?_
      refine lv_goto (tgt := 21) hx hb d_M_hasValue_17 (by decide) ?_
      exact z_zretR hx hb hr hlocks d_M_hasValue_21 rfl (by rw [rgs_nI hj, hV]; rfl)
  · rw [if_neg hq3] at hv1
    subst hv1
    refine lv_if_eq (tgt := 20) hx hb d_M_hasValue_4 (by decide) (fun _ => ?_) (fun c7 => absurd c7 (by decide))
    refine lv_iconst (v := 0) hx hb d_M_hasValue_20 (by decide) ?_
    exact z_zretR hx hb hr hlocks d_M_hasValue_21 rfl (by rw [rgs_out hq3]; rfl)
abbrev b_M_wordOf : ByteArray := prog_12_method_13_code
abbrev y_M_wordOf : MethodName := ⟨"ValueTreesModel", "wordOf", "(I)I"⟩
abbrev w_M_wordOf : List Cond := .code y_M_wordOf b_M_wordOf 2 (Option.some .int) :: gt
theorem hd_M_wordOf : (y_M_wordOf).cls ≠ "java/lang/invoke/MethodHandle" ∧ (y_M_wordOf).cls ≠ "java/lang/invoke/VarHandle" ∧ (parseMethodDescriptor (y_M_wordOf).desc).map (fun d => d.parameters.length) = some 1 := by decide +kernel
theorem d_M_wordOf_0 : decode b_M_wordOf 0 = .ok (.aload_n 0, 1) := by decide +kernel
theorem d_M_wordOf_1 : decode b_M_wordOf 1 = .ok (.iload_n 1, 1) := by decide +kernel
theorem d_M_wordOf_2 : decode b_M_wordOf 2 = .ok (.invokevirtual 69, 3) := by decide +kernel
theorem d_M_wordOf_5 : decode b_M_wordOf 5 = .ok (.ifCond .eq 17, 3) := by decide +kernel
theorem d_M_wordOf_8 : decode b_M_wordOf 8 = .ok (.aload_n 0, 1) := by decide +kernel
theorem d_M_wordOf_9 : decode b_M_wordOf 9 = .ok (.getfield 7, 3) := by decide +kernel
theorem d_M_wordOf_12 : decode b_M_wordOf 12 = .ok (.aload_n 0, 1) := by decide +kernel
theorem d_M_wordOf_13 : decode b_M_wordOf 13 = .ok (.getfield 19, 3) := by decide +kernel
theorem d_M_wordOf_16 : decode b_M_wordOf 16 = .ok (.iload_n 1, 1) := by decide +kernel
theorem d_M_wordOf_17 : decode b_M_wordOf 17 = .ok (.iaload, 1) := by decide +kernel
theorem d_M_wordOf_18 : decode b_M_wordOf 18 = .ok (.iaload, 1) := by decide +kernel
theorem d_M_wordOf_19 : decode b_M_wordOf 19 = .ok (.goto 4, 3) := by decide +kernel
theorem d_M_wordOf_22 : decode b_M_wordOf 22 = .ok (.iconst (-1), 1) := by decide +kernel
theorem d_M_wordOf_23 : decode b_M_wordOf 23 = .ok (.ireturn, 1) := by decide +kernel
set_option maxHeartbeats 4000000 in
set_option maxRecDepth 100000 in
theorem c_M_wordOf (l : Launch) (D : va_G) (dT : Nat → ClassId) (H : Heap) (mm : Nat → Nat) (wd lf rt : Nat → Int32) (tc : Nat) (ty : Nat → Int32) (F : Nat → Nat) (sz : Nat → Int32) (Wk : Nat → Nat) (wz : Nat) (dg : Nat → Nat) (dc : Nat) (sh : Nat → Nat) (hM : mAt D dT mm wd lf rt tc ty F sz Wk wz dg dc sh H) (tb : Nat → TR) (hO : tOK tb tc) (hT : mT tb tc wd lf rt) (RV : Nat → Option VT) (hR : mR tc tb ty sz F RV) (r : Int32) : Met l y_M_wordOf w_M_wordOf ({ frames := 2, cells := 0, slots := 0, locals := 41 }) (z_P D dT [.ref (mm 0), .int r] H) (z_R (fun v => v = .int (match rgs RV r with | none => -1 | some v => nI (tW (tb (vty v)))))) 0 0 (fun _ => False) := by
  refine Met.ofW (cc := b_M_wordOf) (maxL := 2) (ret := (Option.some .int)) (by decide) rfl ?_
  intro p e s m args below meth c s₁ B hml hv
  obtain ⟨rfl, rfl, hK⟩ := hv
  have hx := B.exec
  have hb := B.bytes
  have hr := B.returns
  have hts := atoms_spec (ws := w_M_wordOf) B.pre
  have ht : ∀ w9 ∈ gt, w9.before [.ref (mm 0), .int r].toArray s = true := fun w9 h => hts w9 (List.mem_cons_of_mem _ h)
  have hown : s.vm.findClass "ValueTreesModel" = some m.cls := findClass_of_methodNamed B.named
  have hlocks := B.notSynchronized
  have hl := lv_entry ([.ref (mm 0), .int r]) (n := 2) (Nat.le_of_ble_eq_true rfl)
  rw [lg_entry_eq]
  generalize (lg_sl ([.ref (mm 0), .int r]) ++ List.replicate (2 - (lg_sl ([.ref (mm 0), .int r])).length) Slot.unset).toArray = ls at hl ⊢
  have hl : lv_has ls 2 [(0, .ref (mm 0)), (1, .int r)] := hl
  have htc := hO.1
  refine lv_aload_n hx hb d_M_wordOf_0 rfl (lv_at hl 0 rfl) ?_
  refine lv_iload_n hx hb d_M_wordOf_1 rfl (lv_at hl 1 rfl) ?_
  refine z_callR (va_runV (C := "ValueTreesModel") (As := [.int r]) (rest := []) ⟨hx, hb, hml, hown, hts⟩ (c_M_hasValue l D dT _ mm wd lf rt tc ty F sz Wk wz dg dc sh hM tb hO hT RV hR r) ⟨callB_of 1 hts (gI gd_up gd_c q662) rfl rfl rfl (ht _ q10) (ht _ q659) hd_M_hasValue ⟨Nat.le_of_ble_eq_true rfl, Nat.le_of_ble_eq_true rfl⟩, ht _ q661, ht _ qs27⟩ (z_preV hK (va_recv hK.1 hM.1 (ci := 10) (q0 := 0) rfl rfl)) rfl rfl hl.1 rfl (lv_room (Nat.le_of_ble_eq_true rfl)) d_M_wordOf_2 ⟨Nat.zero_le _, Nat.zero_le _⟩) (fun v2 hv1 => ?_)
  have hv1 : v2 = .int (if (rgs RV r).isSome = true then 1 else 0) := hv1
  cases hr3 : rgs RV r with
  | none =>
    rw [hr3] at hv1
    subst hv1
    try dsimp only
    refine W.eq (g2 := F0 m 5 ls [.int 0]) rfl ?_
    refine lv_if_eq (tgt := 22) hx hb d_M_wordOf_5 (by decide) (fun _ => ?_) (fun c6 => absurd c6 (by decide))
    refine lv_iconst (v := (-1)) hx hb d_M_wordOf_22 (by decide) ?_
    exact z_iretR hx hb hr hlocks d_M_wordOf_23 rfl
  | some v4 =>
    rw [hr3] at hv1
    subst hv1
    refine W.eq (g2 := F0 m 5 ls [.int 1]) rfl ?_
    obtain ⟨j5, hj5, rfl, hV4⟩ := rgs_some hr3
    obtain ⟨ht4, et4, hw4, es4, hn4, hf4⟩ := mR_some hR hj5 hV4
    refine lv_if_eq (tgt := 22) hx hb d_M_wordOf_5 (by decide) (fun c7 => absurd c7 (by decide)) (fun _ => ?_)
    refine lv_aload_n hx hb d_M_wordOf_8 rfl (lv_at hl 0 rfl) ?_
    refine va_get (D := D) (ci := 10) (v := .ref (mm 1)) (C := "ValueTreesModel") (T := T_M) (N := 12) hx hb ht in_M hown hK.1 hM.1 0 rfl rfl 0 (by decide) (ht _ q539) (fun _ h9 => h9) rfl d_M_wordOf_9 ?_
    refine lv_aload_n hx hb d_M_wordOf_12 rfl (lv_at hl 0 rfl) ?_
    refine va_get (D := D) (ci := 10) (v := .ref (mm 4)) (C := "ValueTreesModel") (T := T_M) (N := 12) hx hb ht in_M hown hK.1 hM.1 0 rfl rfl 4 (by decide) (ht _ q543) (fun _ h9 => h9) rfl d_M_wordOf_13 ?_
    refine lv_iload_n hx hb d_M_wordOf_16 rfl (lv_at hl 1 rfl) ?_
    refine z_iald hx hb hK (hM.1 4 _ rfl) j5 rfl (by omega) (by decide) d_M_wordOf_17 ?_
    rw [et4]
    refine z_iald hx hb hK (hM.1 1 _ rfl) (vty v4) rfl (by omega) (by decide) d_M_wordOf_18 ?_
    rw [(hT _ ht4).1]
    refine lv_goto (tgt := 23) hx hb d_M_wordOf_19 (by decide) ?_
    exact z_iretR hx hb hr hlocks d_M_wordOf_23 rfl
