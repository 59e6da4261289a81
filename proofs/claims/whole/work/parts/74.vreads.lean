theorem wh_var {tb : Nat → TR} {i t : Nat} (h : wty tb (.var i) 1 t) : sdv i = wh (.var i) := by
  obtain ⟨-, ⟨-, rfl⟩ | ⟨-, rfl | rfl⟩ | ⟨-, rfl⟩⟩ := h <;> rfl
theorem wh_sub {tb : Nat → TR} {a x : VT} {t : Nat} (h : wty tb (.sub a x) 1 t) : sd a = wh (.sub a x) := by
  obtain ⟨-, ⟨-, rfl, -⟩ | ⟨-, rfl, -⟩ | ⟨-, rfl, -⟩⟩ := h <;> rfl
theorem dig_0 {N i : Nat} (h : (nb N + 15) / 16 ≤ i) : N / 2 ^ (16 * i) % 65536 = 0 := by
  have h1 : N < 2 ^ (16 * i) := nb_lt.mp (by omega)
  rw [Nat.div_eq_of_lt h1]
theorem row_bt {x k i : Nat} (h : x % 256 ^ (k % 16) = k / 16) (hk : k % 16 ≤ 8) (hi : i < k % 16) : (rser k).getD i 0 = x / 256 ^ i % 256 := by
  have e : k = k % 16 + 16 * (x % 256 ^ (k % 16)) := by omega
  have h2 := row_byte (n := k % 16) (L := x) hk hi
  rw [← e] at h2
  exact h2
abbrev b_V_typeOf : ByteArray := prog_1_method_19_code
abbrev y_V_typeOf : MethodName := ⟨"ValueTrees", "typeOf", "(I)I"⟩
abbrev w_V_typeOf : List Cond := .code y_V_typeOf b_V_typeOf 3 (Option.some .int) :: gt
theorem hd_V_typeOf : (y_V_typeOf).cls ≠ "java/lang/invoke/MethodHandle" ∧ (y_V_typeOf).cls ≠ "java/lang/invoke/VarHandle" ∧ (parseMethodDescriptor (y_V_typeOf).desc).map (fun d => d.parameters.length) = some 1 := by decide +kernel
theorem d_V_typeOf_0 : decode b_V_typeOf 0 = .ok (.aload_n 0, 1) := by decide +kernel
theorem d_V_typeOf_1 : decode b_V_typeOf 1 = .ok (.iload_n 1, 1) := by decide +kernel
theorem d_V_typeOf_2 : decode b_V_typeOf 2 = .ok (.invokevirtual 77, 3) := by decide +kernel
theorem d_V_typeOf_5 : decode b_V_typeOf 5 = .ok (.astore_n 2, 1) := by decide +kernel
theorem d_V_typeOf_6 : decode b_V_typeOf 6 = .ok (.aload_n 2, 1) := by decide +kernel
theorem d_V_typeOf_7 : decode b_V_typeOf 7 = .ok (.ifnonnull 7, 3) := by decide +kernel
theorem d_V_typeOf_10 : decode b_V_typeOf 10 = .ok (.iconst (-1), 1) := by decide +kernel
theorem d_V_typeOf_11 : decode b_V_typeOf 11 = .ok (.goto 7, 3) := by decide +kernel
theorem d_V_typeOf_14 : decode b_V_typeOf 14 = .ok (.aload_n 2, 1) := by decide +kernel
theorem d_V_typeOf_15 : decode b_V_typeOf 15 = .ok (.getfield 125, 3) := by decide +kernel
theorem d_V_typeOf_18 : decode b_V_typeOf 18 = .ok (.ireturn, 1) := by decide +kernel
set_option maxHeartbeats 4000000 in
set_option maxRecDepth 100000 in
theorem p_V_typeOf (l : Launch) (D : va_G) (dT : Nat → ClassId) (H : Heap) (Bq : Nat → Prop) (vv rg li ed : Nat) (tb : Nat → TR) (tc : Nat) (RV : Nat → Option VT) (hC : cI D dT Bq vv rg li ed tb tc RV H) (hV : vOK tb tc RV) (r : Int32) : Met l y_V_typeOf w_V_typeOf ({ frames := 2, cells := 0, slots := 0, locals := 41 }) (z_P D dT [.ref vv, .int r] H) (z_R (fun v => v = .int (a_typeOf RV r))) 0 0 (fun _ => False) := by
  obtain ⟨⟨hBs, hBr, hBl, hBe, hBv, hrl, hre, hle⟩, hvv, hCR, hCT⟩ := id hC
  have hO := hV.1
  have htc := hO.1
  have htc10 := hO.2.1
  refine Met.ofW (cc := b_V_typeOf) (maxL := 3) (ret := (Option.some .int)) (by decide) rfl ?_
  intro p e s m args below meth c s₁ B hml hv
  obtain ⟨rfl, rfl, hK⟩ := hv
  have hx := B.exec
  have hb := B.bytes
  have hr := B.returns
  have hts := atoms_spec (ws := w_V_typeOf) B.pre
  have ht : ∀ w9 ∈ gt, w9.before [.ref vv, .int r].toArray s = true := fun w9 h => hts w9 (List.mem_cons_of_mem _ h)
  have hown : s.vm.findClass "ValueTrees" = some m.cls := findClass_of_methodNamed B.named
  have hlocks := B.notSynchronized
  have hl := lv_entry ([.ref vv, .int r]) (n := 3) (Nat.le_of_ble_eq_true rfl)
  rw [lg_entry_eq]
  generalize (lg_sl ([.ref vv, .int r]) ++ List.replicate (3 - (lg_sl ([.ref vv, .int r])).length) Slot.unset).toArray = ls at hl ⊢
  have hl : lv_has ls 3 [(0, .ref vv), (1, .int r)] := hl
  refine lv_aload_n hx hb d_V_typeOf_0 rfl (lv_at hl 0 rfl) ?_
  refine lv_iload_n hx hb d_V_typeOf_1 rfl (lv_at hl 1 rfl) ?_
  refine z_callR (va_runV (C := "ValueTrees") (As := [.int r]) (rest := []) ⟨hx, hb, hml, hown, hts⟩ (c_V_held l D dT _ Bq vv rg li ed tb tc RV hC hV r) ⟨callB_of 1 hts (gI gd_up gd_c q275) rfl rfl rfl (ht _ q1) (ht _ q272) hd_V_held ⟨Nat.le_of_ble_eq_true rfl, Nat.le_of_ble_eq_true rfl⟩, ht _ q274, ht _ qs7⟩ (z_preV hK (va_recv hK.1 (z_1 hvv) (ci := 0) (q0 := 0) rfl rfl)) rfl rfl hl.1 rfl (lv_room (Nat.le_of_ble_eq_true rfl)) d_V_typeOf_2 ⟨Nat.zero_le _, Nat.zero_le _⟩) (fun v2 hv1 => ?_)
  rcases hv1 with ⟨rfl, hr5⟩ | ⟨a3, v4, rfl, hr5, hq4⟩
  · refine lv_astore_nN (lv' := [(2, .null), (0, .ref vv), (1, .int r)]) hx hb d_V_typeOf_5 rfl hl (by decide) rfl (fun ls hl => ?_)
    refine lv_aload_nN hx hb d_V_typeOf_6 rfl (lv_at hl 0 rfl) ?_
    refine lv_ifnonnullN hx hb d_V_typeOf_7 ?_
    refine lv_iconst (v := (-1)) hx hb d_V_typeOf_10 (by decide) ?_
    refine lv_goto (tgt := 18) hx hb d_V_typeOf_11 (by decide) ?_
    exact z_iretR hx hb hr hlocks d_V_typeOf_18 (by unfold a_typeOf; rw [hr5])
  · obtain ⟨ht4, hw4, hl4⟩ := vOK_get hV hr5
    obtain ⟨hh4, hnb4⟩ := rv_hd hw4 hq4
    refine lv_astore_n (lv' := [(2, .ref a3), (0, .ref vv), (1, .int r)]) hx hb d_V_typeOf_5 rfl hl (by decide) rfl (fun ls hl => ?_)
    refine lv_aload_n hx hb d_V_typeOf_6 rfl (lv_at hl 0 rfl) ?_
    refine lv_ifnonnull (tgt := 14) hx hb d_V_typeOf_7 (by decide) ?_
    refine lv_aload_n hx hb d_V_typeOf_14 rfl (lv_at hl 0 rfl) ?_
    refine z_vty hx hb ht hown hK hh4 (ht _ q235) d_V_typeOf_15 ?_
    exact z_iretR hx hb hr hlocks d_V_typeOf_18 (by unfold a_typeOf; rw [hr5])
abbrev b_V_length : ByteArray := prog_1_method_20_code
abbrev y_V_length : MethodName := ⟨"ValueTrees", "length", "(I)I"⟩
abbrev w_V_length : List Cond := .code y_V_length b_V_length 3 (Option.some .int) :: gt
theorem hd_V_length : (y_V_length).cls ≠ "java/lang/invoke/MethodHandle" ∧ (y_V_length).cls ≠ "java/lang/invoke/VarHandle" ∧ (parseMethodDescriptor (y_V_length).desc).map (fun d => d.parameters.length) = some 1 := by decide +kernel
theorem d_V_length_0 : decode b_V_length 0 = .ok (.aload_n 0, 1) := by decide +kernel
theorem d_V_length_1 : decode b_V_length 1 = .ok (.iload_n 1, 1) := by decide +kernel
theorem d_V_length_2 : decode b_V_length 2 = .ok (.invokevirtual 77, 3) := by decide +kernel
theorem d_V_length_5 : decode b_V_length 5 = .ok (.astore_n 2, 1) := by decide +kernel
theorem d_V_length_6 : decode b_V_length 6 = .ok (.aload_n 2, 1) := by decide +kernel
theorem d_V_length_7 : decode b_V_length 7 = .ok (.ifnonnull 7, 3) := by decide +kernel
theorem d_V_length_10 : decode b_V_length 10 = .ok (.iconst (-1), 1) := by decide +kernel
theorem d_V_length_11 : decode b_V_length 11 = .ok (.goto 7, 3) := by decide +kernel
theorem d_V_length_14 : decode b_V_length 14 = .ok (.aload_n 2, 1) := by decide +kernel
theorem d_V_length_15 : decode b_V_length 15 = .ok (.getfield 206, 3) := by decide +kernel
theorem d_V_length_18 : decode b_V_length 18 = .ok (.ireturn, 1) := by decide +kernel
set_option maxHeartbeats 4000000 in
set_option maxRecDepth 100000 in
theorem p_V_length (l : Launch) (D : va_G) (dT : Nat → ClassId) (H : Heap) (Bq : Nat → Prop) (vv rg li ed : Nat) (tb : Nat → TR) (tc : Nat) (RV : Nat → Option VT) (hC : cI D dT Bq vv rg li ed tb tc RV H) (hV : vOK tb tc RV) (r : Int32) : Met l y_V_length w_V_length ({ frames := 2, cells := 0, slots := 0, locals := 41 }) (z_P D dT [.ref vv, .int r] H) (z_R (fun v => v = .int (a_length RV r))) 0 0 (fun _ => False) := by
  obtain ⟨⟨hBs, hBr, hBl, hBe, hBv, hrl, hre, hle⟩, hvv, hCR, hCT⟩ := id hC
  have hO := hV.1
  have htc := hO.1
  have htc10 := hO.2.1
  refine Met.ofW (cc := b_V_length) (maxL := 3) (ret := (Option.some .int)) (by decide) rfl ?_
  intro p e s m args below meth c s₁ B hml hv
  obtain ⟨rfl, rfl, hK⟩ := hv
  have hx := B.exec
  have hb := B.bytes
  have hr := B.returns
  have hts := atoms_spec (ws := w_V_length) B.pre
  have ht : ∀ w9 ∈ gt, w9.before [.ref vv, .int r].toArray s = true := fun w9 h => hts w9 (List.mem_cons_of_mem _ h)
  have hown : s.vm.findClass "ValueTrees" = some m.cls := findClass_of_methodNamed B.named
  have hlocks := B.notSynchronized
  have hl := lv_entry ([.ref vv, .int r]) (n := 3) (Nat.le_of_ble_eq_true rfl)
  rw [lg_entry_eq]
  generalize (lg_sl ([.ref vv, .int r]) ++ List.replicate (3 - (lg_sl ([.ref vv, .int r])).length) Slot.unset).toArray = ls at hl ⊢
  have hl : lv_has ls 3 [(0, .ref vv), (1, .int r)] := hl
  refine lv_aload_n hx hb d_V_length_0 rfl (lv_at hl 0 rfl) ?_
  refine lv_iload_n hx hb d_V_length_1 rfl (lv_at hl 1 rfl) ?_
  refine z_callR (va_runV (C := "ValueTrees") (As := [.int r]) (rest := []) ⟨hx, hb, hml, hown, hts⟩ (c_V_held l D dT _ Bq vv rg li ed tb tc RV hC hV r) ⟨callB_of 1 hts (gI gd_up gd_c q275) rfl rfl rfl (ht _ q1) (ht _ q272) hd_V_held ⟨Nat.le_of_ble_eq_true rfl, Nat.le_of_ble_eq_true rfl⟩, ht _ q274, ht _ qs7⟩ (z_preV hK (va_recv hK.1 (z_1 hvv) (ci := 0) (q0 := 0) rfl rfl)) rfl rfl hl.1 rfl (lv_room (Nat.le_of_ble_eq_true rfl)) d_V_length_2 ⟨Nat.zero_le _, Nat.zero_le _⟩) (fun v2 hv1 => ?_)
  rcases hv1 with ⟨rfl, hr5⟩ | ⟨a3, v4, rfl, hr5, hq4⟩
  · refine lv_astore_nN (lv' := [(2, .null), (0, .ref vv), (1, .int r)]) hx hb d_V_length_5 rfl hl (by decide) rfl (fun ls hl => ?_)
    refine lv_aload_nN hx hb d_V_length_6 rfl (lv_at hl 0 rfl) ?_
    refine lv_ifnonnullN hx hb d_V_length_7 ?_
    refine lv_iconst (v := (-1)) hx hb d_V_length_10 (by decide) ?_
    refine lv_goto (tgt := 18) hx hb d_V_length_11 (by decide) ?_
    exact z_iretR hx hb hr hlocks d_V_length_18 (by unfold a_length; rw [hr5])
  · obtain ⟨ht4, hw4, hl4⟩ := vOK_get hV hr5
    obtain ⟨hh4, hnb4⟩ := rv_hd hw4 hq4
    refine lv_astore_n (lv' := [(2, .ref a3), (0, .ref vv), (1, .int r)]) hx hb d_V_length_5 rfl hl (by decide) rfl (fun ls hl => ?_)
    refine lv_aload_n hx hb d_V_length_6 rfl (lv_at hl 0 rfl) ?_
    refine lv_ifnonnull (tgt := 14) hx hb d_V_length_7 (by decide) ?_
    refine lv_aload_n hx hb d_V_length_14 rfl (lv_at hl 0 rfl) ?_
    refine z_vlen hx hb ht hown hK hh4 (ht _ q246) d_V_length_15 ?_
    exact z_iretR hx hb hr hlocks d_V_length_18 (by unfold a_length; rw [hr5])
abbrev b_V_which : ByteArray := prog_1_method_21_code
abbrev y_V_which : MethodName := ⟨"ValueTrees", "which", "(I)I"⟩
abbrev w_V_which : List Cond := .code y_V_which b_V_which 4 (Option.some .int) :: gt
theorem hd_V_which : (y_V_which).cls ≠ "java/lang/invoke/MethodHandle" ∧ (y_V_which).cls ≠ "java/lang/invoke/VarHandle" ∧ (parseMethodDescriptor (y_V_which).desc).map (fun d => d.parameters.length) = some 1 := by decide +kernel
theorem d_V_which_0 : decode b_V_which 0 = .ok (.aload_n 0, 1) := by decide +kernel
theorem d_V_which_1 : decode b_V_which 1 = .ok (.iload_n 1, 1) := by decide +kernel
theorem d_V_which_2 : decode b_V_which 2 = .ok (.invokevirtual 77, 3) := by decide +kernel
theorem d_V_which_5 : decode b_V_which 5 = .ok (.astore_n 3, 1) := by decide +kernel
theorem d_V_which_6 : decode b_V_which 6 = .ok (.aload_n 3, 1) := by decide +kernel
theorem d_V_which_7 : decode b_V_which 7 = .ok (.instanceof 104, 3) := by decide +kernel
theorem d_V_which_10 : decode b_V_which 10 = .ok (.ifCond .eq 15, 3) := by decide +kernel
theorem d_V_which_13 : decode b_V_which 13 = .ok (.aload_n 3, 1) := by decide +kernel
theorem d_V_which_14 : decode b_V_which 14 = .ok (.checkcast 104, 3) := by decide +kernel
theorem d_V_which_17 : decode b_V_which 17 = .ok (.astore_n 2, 1) := by decide +kernel
theorem d_V_which_18 : decode b_V_which 18 = .ok (.aload_n 2, 1) := by decide +kernel
theorem d_V_which_19 : decode b_V_which 19 = .ok (.getfield 209, 3) := by decide +kernel
theorem d_V_which_22 : decode b_V_which 22 = .ok (.goto 4, 3) := by decide +kernel
theorem d_V_which_25 : decode b_V_which 25 = .ok (.iconst (-1), 1) := by decide +kernel
theorem d_V_which_26 : decode b_V_which 26 = .ok (.ireturn, 1) := by decide +kernel
set_option maxHeartbeats 4000000 in
set_option maxRecDepth 100000 in
theorem p_V_which (l : Launch) (D : va_G) (dT : Nat → ClassId) (H : Heap) (Bq : Nat → Prop) (vv rg li ed : Nat) (tb : Nat → TR) (tc : Nat) (RV : Nat → Option VT) (hC : cI D dT Bq vv rg li ed tb tc RV H) (hV : vOK tb tc RV) (r : Int32) : Met l y_V_which w_V_which ({ frames := 2, cells := 0, slots := 0, locals := 41 }) (z_P D dT [.ref vv, .int r] H) (z_R (fun v => v = .int (a_which RV r))) 0 0 (fun _ => False) := by
  obtain ⟨⟨hBs, hBr, hBl, hBe, hBv, hrl, hre, hle⟩, hvv, hCR, hCT⟩ := id hC
  have hO := hV.1
  have htc := hO.1
  have htc10 := hO.2.1
  refine Met.ofW (cc := b_V_which) (maxL := 4) (ret := (Option.some .int)) (by decide) rfl ?_
  intro p e s m args below meth c s₁ B hml hv
  obtain ⟨rfl, rfl, hK⟩ := hv
  have hx := B.exec
  have hb := B.bytes
  have hr := B.returns
  have hts := atoms_spec (ws := w_V_which) B.pre
  have ht : ∀ w9 ∈ gt, w9.before [.ref vv, .int r].toArray s = true := fun w9 h => hts w9 (List.mem_cons_of_mem _ h)
  have hown : s.vm.findClass "ValueTrees" = some m.cls := findClass_of_methodNamed B.named
  have hlocks := B.notSynchronized
  have hl := lv_entry ([.ref vv, .int r]) (n := 4) (Nat.le_of_ble_eq_true rfl)
  rw [lg_entry_eq]
  generalize (lg_sl ([.ref vv, .int r]) ++ List.replicate (4 - (lg_sl ([.ref vv, .int r])).length) Slot.unset).toArray = ls at hl ⊢
  have hl : lv_has ls 4 [(0, .ref vv), (1, .int r)] := hl
  refine lv_aload_n hx hb d_V_which_0 rfl (lv_at hl 0 rfl) ?_
  refine lv_iload_n hx hb d_V_which_1 rfl (lv_at hl 1 rfl) ?_
  refine z_callR (va_runV (C := "ValueTrees") (As := [.int r]) (rest := []) ⟨hx, hb, hml, hown, hts⟩ (c_V_held l D dT _ Bq vv rg li ed tb tc RV hC hV r) ⟨callB_of 1 hts (gI gd_up gd_c q275) rfl rfl rfl (ht _ q1) (ht _ q272) hd_V_held ⟨Nat.le_of_ble_eq_true rfl, Nat.le_of_ble_eq_true rfl⟩, ht _ q274, ht _ qs7⟩ (z_preV hK (va_recv hK.1 (z_1 hvv) (ci := 0) (q0 := 0) rfl rfl)) rfl rfl hl.1 rfl (lv_room (Nat.le_of_ble_eq_true rfl)) d_V_which_2 ⟨Nat.zero_le _, Nat.zero_le _⟩) (fun v2 hv1 => ?_)
  rcases hv1 with ⟨rfl, hr5⟩ | ⟨a3, v4, rfl, hr5, hq4⟩
  · refine lv_astore_nN (lv' := [(3, .null), (0, .ref vv), (1, .int r)]) hx hb d_V_which_5 rfl hl (by decide) rfl (fun ls hl => ?_)
    refine lv_aload_nN hx hb d_V_which_6 rfl (lv_at hl 0 rfl) ?_
    refine lv_instN hx hb d_V_which_7 ?_
    refine lv_if_eq (tgt := 25) hx hb d_V_which_10 (by decide) (fun _ => ?_) (fun c6 => absurd c6 (by decide))
    refine lv_iconst (v := (-1)) hx hb d_V_which_25 (by decide) ?_
    exact z_iretR hx hb hr hlocks d_V_which_26 (by unfold a_which; rw [hr5])
  · obtain ⟨ht4, hw4, hl4⟩ := vOK_get hV hr5
    obtain ⟨hh4, hnb4⟩ := rv_hd hw4 hq4
    obtain ⟨c4, ec4, hc4⟩ := wty_pow hw4
    rw [ec4] at hq4
    cases c4 with
    | num z4 =>
      obtain ⟨d4, oa4, hna4, od4, hnd4⟩ := rv_num.mp hq4
      have hnb4 : nb z4.natAbs ≤ 1024 := nb_lt.mpr hc4.2.2.1
      refine lv_astore_n (lv' := [(3, .ref a3), (0, .ref vv), (1, .int r)]) hx hb d_V_which_5 rfl hl (by decide) rfl (fun ls hl => ?_)
      refine lv_aload_n hx hb d_V_which_6 rfl (lv_at hl 0 rfl) ?_
      refine va_instNo (C := "ValueTrees$Whole") hx hb hown (ht _ q303) (hK.2.1 _ nc_Whole_Choice) (z_recv hK oa4 rfl) d_V_which_7 ?_
      refine lv_if_eq (tgt := 25) hx hb d_V_which_10 (by decide) (fun _ => ?_) (fun c7 => absurd c7 (by decide))
      refine lv_iconst (v := (-1)) hx hb d_V_which_25 (by decide) ?_
      exact z_iretR hx hb hr hlocks d_V_which_26 (by unfold a_which; rw [hr5, ec4]; rfl)
    | natCast k4 =>
      obtain ⟨x4, oa4, hna4, hx4⟩ := rv_row.mp hq4
      have hk4 : k4 % 16 ≤ 8 := hc4.2.2.1
      refine lv_astore_n (lv' := [(3, .ref a3), (0, .ref vv), (1, .int r)]) hx hb d_V_which_5 rfl hl (by decide) rfl (fun ls hl => ?_)
      refine lv_aload_n hx hb d_V_which_6 rfl (lv_at hl 0 rfl) ?_
      refine va_instNo (C := "ValueTrees$Row") hx hb hown (ht _ q303) (hK.2.1 _ nc_Row_Choice) (z_recv hK oa4 rfl) d_V_which_7 ?_
      refine lv_if_eq (tgt := 25) hx hb d_V_which_10 (by decide) (fun _ => ?_) (fun c8 => absurd c8 (by decide))
      refine lv_iconst (v := (-1)) hx hb d_V_which_25 (by decide) ?_
      exact z_iretR hx hb hr hlocks d_V_which_26 (by unfold a_which; rw [hr5, ec4]; rfl)
    | intCast k4 =>
      obtain ⟨oa4, hna4⟩ := rv_nil.mp hq4
      refine lv_astore_n (lv' := [(3, .ref a3), (0, .ref vv), (1, .int r)]) hx hb d_V_which_5 rfl hl (by decide) rfl (fun ls hl => ?_)
      refine lv_aload_n hx hb d_V_which_6 rfl (lv_at hl 0 rfl) ?_
      refine va_instNo (C := "ValueTrees$Chain") hx hb hown (ht _ q303) (hK.2.1 _ nc_Chain_Choice) (z_recv hK oa4 rfl) d_V_which_7 ?_
      refine lv_if_eq (tgt := 25) hx hb d_V_which_10 (by decide) (fun _ => ?_) (fun c9 => absurd c9 (by decide))
      refine lv_iconst (v := (-1)) hx hb d_V_which_25 (by decide) ?_
      exact z_iretR hx hb hr hlocks d_V_which_26 (by unfold a_which; rw [hr5, ec4]; rfl)
    | var i4 =>
      obtain ⟨oa4, hna4⟩ := rv_var.mp hq4
      refine lv_astore_n (lv' := [(3, .ref a3), (0, .ref vv), (1, .int r)]) hx hb d_V_which_5 rfl hl (by decide) rfl (fun ls hl => ?_)
      refine lv_aload_n hx hb d_V_which_6 rfl (lv_at hl 0 rfl) ?_
      refine va_instE hx hb hown (ht _ q303) (z_recv hK oa4 rfl) d_V_which_7 ?_
      refine lv_if_eq (tgt := 25) hx hb d_V_which_10 (by decide) (fun c10 => absurd c10 (by decide)) (fun _ => ?_)
      refine lv_aload_n hx hb d_V_which_13 rfl (lv_at hl 0 rfl) ?_
      refine va_castE hx hb hown (ht _ q303) (z_recv hK oa4 rfl) d_V_which_14 ?_
      refine lv_astore_n (lv' := [(2, .ref a3), (3, .ref a3), (0, .ref vv), (1, .int r)]) hx hb d_V_which_17 rfl hl (by decide) rfl (fun ls hl => ?_)
      refine lv_aload_n hx hb d_V_which_18 rfl (lv_at hl 0 rfl) ?_
      refine va_get (D := D) (ci := 4) (v := .int (sdv i4)) (C := "ValueTrees$Choice") (T := T_Choice) (N := 4) hx hb ht in_Choice hown hK.1 (z_1 oa4) 0 rfl rfl 2 (by decide) (ht _ q310) (fun _ h9 => h9) rfl d_V_which_19 ?_
      refine lv_goto (tgt := 26) hx hb d_V_which_22 (by decide) ?_
      exact z_iretR hx hb hr hlocks d_V_which_26 (by unfold a_which; rw [hr5, ec4]; rw [wh_var hc4]; rfl)
    | neg ch4 =>
      obtain ⟨e4, f4, oa4, hna4, oe4, hne4, hch4⟩ := rv_neg.mp hq4
      refine lv_astore_n (lv' := [(3, .ref a3), (0, .ref vv), (1, .int r)]) hx hb d_V_which_5 rfl hl (by decide) rfl (fun ls hl => ?_)
      refine lv_aload_n hx hb d_V_which_6 rfl (lv_at hl 0 rfl) ?_
      refine va_instNo (C := "ValueTrees$Tree") hx hb hown (ht _ q303) (hK.2.1 _ nc_Tree_Choice) (z_recv hK oa4 rfl) d_V_which_7 ?_
      refine lv_if_eq (tgt := 25) hx hb d_V_which_10 (by decide) (fun _ => ?_) (fun c11 => absurd c11 (by decide))
      refine lv_iconst (v := (-1)) hx hb d_V_which_25 (by decide) ?_
      exact z_iretR hx hb hr hlocks d_V_which_26 (by unfold a_which; rw [hr5, ec4]; rfl)
    | add x4 y4 =>
      obtain ⟨b4, d4, oa4, hna4, hb4, hd4⟩ := rv_add.mp hq4
      refine lv_astore_n (lv' := [(3, .ref a3), (0, .ref vv), (1, .int r)]) hx hb d_V_which_5 rfl hl (by decide) rfl (fun ls hl => ?_)
      refine lv_aload_n hx hb d_V_which_6 rfl (lv_at hl 0 rfl) ?_
      refine va_instNo (C := "ValueTrees$Couple") hx hb hown (ht _ q303) (hK.2.1 _ nc_Couple_Choice) (z_recv hK oa4 rfl) d_V_which_7 ?_
      refine lv_if_eq (tgt := 25) hx hb d_V_which_10 (by decide) (fun _ => ?_) (fun c12 => absurd c12 (by decide))
      refine lv_iconst (v := (-1)) hx hb d_V_which_25 (by decide) ?_
      exact z_iretR hx hb hr hlocks d_V_which_26 (by unfold a_which; rw [hr5, ec4]; rfl)
    | sub a4 x4 =>
      obtain ⟨b4, oa4, hna4, hb4⟩ := rv_sub.mp hq4
      refine lv_astore_n (lv' := [(3, .ref a3), (0, .ref vv), (1, .int r)]) hx hb d_V_which_5 rfl hl (by decide) rfl (fun ls hl => ?_)
      refine lv_aload_n hx hb d_V_which_6 rfl (lv_at hl 0 rfl) ?_
      refine va_instE hx hb hown (ht _ q303) (z_recv hK oa4 rfl) d_V_which_7 ?_
      refine lv_if_eq (tgt := 25) hx hb d_V_which_10 (by decide) (fun c13 => absurd c13 (by decide)) (fun _ => ?_)
      refine lv_aload_n hx hb d_V_which_13 rfl (lv_at hl 0 rfl) ?_
      refine va_castE hx hb hown (ht _ q303) (z_recv hK oa4 rfl) d_V_which_14 ?_
      refine lv_astore_n (lv' := [(2, .ref a3), (3, .ref a3), (0, .ref vv), (1, .int r)]) hx hb d_V_which_17 rfl hl (by decide) rfl (fun ls hl => ?_)
      refine lv_aload_n hx hb d_V_which_18 rfl (lv_at hl 0 rfl) ?_
      refine va_get (D := D) (ci := 4) (v := .int (sd a4)) (C := "ValueTrees$Choice") (T := T_Choice) (N := 4) hx hb ht in_Choice hown hK.1 (z_1 oa4) 0 rfl rfl 2 (by decide) (ht _ q310) (fun _ h9 => h9) rfl d_V_which_19 ?_
      refine lv_goto (tgt := 26) hx hb d_V_which_22 (by decide) ?_
      exact z_iretR hx hb hr hlocks d_V_which_26 (by unfold a_which; rw [hr5, ec4]; rw [wh_sub hc4]; rfl)
    | mul x4 y4 =>
      obtain ⟨b4, d4, oa4, hna4, hb4, hd4⟩ := rv_mul.mp hq4
      refine lv_astore_n (lv' := [(3, .ref a3), (0, .ref vv), (1, .int r)]) hx hb d_V_which_5 rfl hl (by decide) rfl (fun ls hl => ?_)
      refine lv_aload_n hx hb d_V_which_6 rfl (lv_at hl 0 rfl) ?_
      refine va_instNo (C := "ValueTrees$Chain") hx hb hown (ht _ q303) (hK.2.1 _ nc_Chain_Choice) (z_recv hK oa4 rfl) d_V_which_7 ?_
      refine lv_if_eq (tgt := 25) hx hb d_V_which_10 (by decide) (fun _ => ?_) (fun c14 => absurd c14 (by decide))
      refine lv_iconst (v := (-1)) hx hb d_V_which_25 (by decide) ?_
      exact z_iretR hx hb hr hlocks d_V_which_26 (by unfold a_which; rw [hr5, ec4]; rfl)
    | pow c8 t8 => exact absurd hc4.1 (by decide)
abbrev b_V_many : ByteArray := prog_1_method_22_code
abbrev y_V_many : MethodName := ⟨"ValueTrees", "many", "(I)I"⟩
abbrev w_V_many : List Cond := .code y_V_many b_V_many 4 (Option.some .int) :: gt
theorem hd_V_many : (y_V_many).cls ≠ "java/lang/invoke/MethodHandle" ∧ (y_V_many).cls ≠ "java/lang/invoke/VarHandle" ∧ (parseMethodDescriptor (y_V_many).desc).map (fun d => d.parameters.length) = some 1 := by decide +kernel
theorem d_V_many_0 : decode b_V_many 0 = .ok (.aload_n 0, 1) := by decide +kernel
theorem d_V_many_1 : decode b_V_many 1 = .ok (.iload_n 1, 1) := by decide +kernel
theorem d_V_many_2 : decode b_V_many 2 = .ok (.invokevirtual 77, 3) := by decide +kernel
theorem d_V_many_5 : decode b_V_many 5 = .ok (.astore_n 2, 1) := by decide +kernel
theorem d_V_many_6 : decode b_V_many 6 = .ok (.aload_n 2, 1) := by decide +kernel
theorem d_V_many_7 : decode b_V_many 7 = .ok (.instanceof 113, 3) := by decide +kernel
theorem d_V_many_10 : decode b_V_many 10 = .ok (.ifCond .eq 13, 3) := by decide +kernel
theorem d_V_many_13 : decode b_V_many 13 = .ok (.aload_n 2, 1) := by decide +kernel
theorem d_V_many_14 : decode b_V_many 14 = .ok (.checkcast 113, 3) := by decide +kernel
theorem d_V_many_17 : decode b_V_many 17 = .ok (.astore_n 3, 1) := by decide +kernel
theorem d_V_many_18 : decode b_V_many 18 = .ok (.aload_n 3, 1) := by decide +kernel
theorem d_V_many_19 : decode b_V_many 19 = .ok (.getfield 212, 3) := by decide +kernel
theorem d_V_many_22 : decode b_V_many 22 = .ok (.ireturn, 1) := by decide +kernel
theorem d_V_many_23 : decode b_V_many 23 = .ok (.aload_n 2, 1) := by decide +kernel
theorem d_V_many_24 : decode b_V_many 24 = .ok (.instanceof 118, 3) := by decide +kernel
theorem d_V_many_27 : decode b_V_many 27 = .ok (.ifCond .eq 14, 3) := by decide +kernel
theorem d_V_many_30 : decode b_V_many 30 = .ok (.aload_n 2, 1) := by decide +kernel
theorem d_V_many_31 : decode b_V_many 31 = .ok (.checkcast 118, 3) := by decide +kernel
theorem d_V_many_34 : decode b_V_many 34 = .ok (.astore_n 3, 1) := by decide +kernel
theorem d_V_many_35 : decode b_V_many 35 = .ok (.aload_n 3, 1) := by decide +kernel
theorem d_V_many_36 : decode b_V_many 36 = .ok (.getfield 196, 3) := by decide +kernel
theorem d_V_many_39 : decode b_V_many 39 = .ok (.arraylength, 1) := by decide +kernel
theorem d_V_many_40 : decode b_V_many 40 = .ok (.ireturn, 1) := by decide +kernel
theorem d_V_many_41 : decode b_V_many 41 = .ok (.aload_n 2, 1) := by decide +kernel
theorem d_V_many_42 : decode b_V_many 42 = .ok (.instanceof 99, 3) := by decide +kernel
theorem d_V_many_45 : decode b_V_many 45 = .ok (.ifCond .eq 15, 3) := by decide +kernel
theorem d_V_many_48 : decode b_V_many 48 = .ok (.aload_n 2, 1) := by decide +kernel
theorem d_V_many_49 : decode b_V_many 49 = .ok (.checkcast 99, 3) := by decide +kernel
theorem d_V_many_52 : decode b_V_many 52 = .ok (.astore_n 3, 1) := by decide +kernel
theorem d_V_many_53 : decode b_V_many 53 = .ok (.aload_n 3, 1) := by decide +kernel
theorem d_V_many_54 : decode b_V_many 54 = .ok (.getfield 215, 3) := by decide +kernel
theorem d_V_many_57 : decode b_V_many 57 = .ok (.goto 4, 3) := by decide +kernel
theorem d_V_many_60 : decode b_V_many 60 = .ok (.iconst (-1), 1) := by decide +kernel
theorem d_V_many_61 : decode b_V_many 61 = .ok (.ireturn, 1) := by decide +kernel
set_option maxHeartbeats 4000000 in
set_option maxRecDepth 100000 in
theorem p_V_many (l : Launch) (D : va_G) (dT : Nat → ClassId) (H : Heap) (Bq : Nat → Prop) (vv rg li ed : Nat) (tb : Nat → TR) (tc : Nat) (RV : Nat → Option VT) (hC : cI D dT Bq vv rg li ed tb tc RV H) (hV : vOK tb tc RV) (r : Int32) : Met l y_V_many w_V_many ({ frames := 2, cells := 0, slots := 0, locals := 41 }) (z_P D dT [.ref vv, .int r] H) (z_R (fun v => v = .int (a_many RV r))) 0 0 (fun _ => False) := by
  obtain ⟨⟨hBs, hBr, hBl, hBe, hBv, hrl, hre, hle⟩, hvv, hCR, hCT⟩ := id hC
  have hO := hV.1
  have htc := hO.1
  have htc10 := hO.2.1
  refine Met.ofW (cc := b_V_many) (maxL := 4) (ret := (Option.some .int)) (by decide) rfl ?_
  intro p e s m args below meth c s₁ B hml hv
  obtain ⟨rfl, rfl, hK⟩ := hv
  have hx := B.exec
  have hb := B.bytes
  have hr := B.returns
  have hts := atoms_spec (ws := w_V_many) B.pre
  have ht : ∀ w9 ∈ gt, w9.before [.ref vv, .int r].toArray s = true := fun w9 h => hts w9 (List.mem_cons_of_mem _ h)
  have hown : s.vm.findClass "ValueTrees" = some m.cls := findClass_of_methodNamed B.named
  have hlocks := B.notSynchronized
  have hl := lv_entry ([.ref vv, .int r]) (n := 4) (Nat.le_of_ble_eq_true rfl)
  rw [lg_entry_eq]
  generalize (lg_sl ([.ref vv, .int r]) ++ List.replicate (4 - (lg_sl ([.ref vv, .int r])).length) Slot.unset).toArray = ls at hl ⊢
  have hl : lv_has ls 4 [(0, .ref vv), (1, .int r)] := hl
  refine lv_aload_n hx hb d_V_many_0 rfl (lv_at hl 0 rfl) ?_
  refine lv_iload_n hx hb d_V_many_1 rfl (lv_at hl 1 rfl) ?_
  refine z_callR (va_runV (C := "ValueTrees") (As := [.int r]) (rest := []) ⟨hx, hb, hml, hown, hts⟩ (c_V_held l D dT _ Bq vv rg li ed tb tc RV hC hV r) ⟨callB_of 1 hts (gI gd_up gd_c q275) rfl rfl rfl (ht _ q1) (ht _ q272) hd_V_held ⟨Nat.le_of_ble_eq_true rfl, Nat.le_of_ble_eq_true rfl⟩, ht _ q274, ht _ qs7⟩ (z_preV hK (va_recv hK.1 (z_1 hvv) (ci := 0) (q0 := 0) rfl rfl)) rfl rfl hl.1 rfl (lv_room (Nat.le_of_ble_eq_true rfl)) d_V_many_2 ⟨Nat.zero_le _, Nat.zero_le _⟩) (fun v2 hv1 => ?_)
  rcases hv1 with ⟨rfl, hr5⟩ | ⟨a3, v4, rfl, hr5, hq4⟩
  · refine lv_astore_nN (lv' := [(2, .null), (0, .ref vv), (1, .int r)]) hx hb d_V_many_5 rfl hl (by decide) rfl (fun ls hl => ?_)
    refine lv_aload_nN hx hb d_V_many_6 rfl (lv_at hl 0 rfl) ?_
    refine lv_instN hx hb d_V_many_7 ?_
    refine lv_if_eq (tgt := 23) hx hb d_V_many_10 (by decide) (fun _ => ?_) (fun c6 => absurd c6 (by decide))
    refine lv_aload_nN hx hb d_V_many_23 rfl (lv_at hl 0 rfl) ?_
    refine lv_instN hx hb d_V_many_24 ?_
    refine lv_if_eq (tgt := 41) hx hb d_V_many_27 (by decide) (fun _ => ?_) (fun c7 => absurd c7 (by decide))
    refine lv_aload_nN hx hb d_V_many_41 rfl (lv_at hl 0 rfl) ?_
    refine lv_instN hx hb d_V_many_42 ?_
    refine lv_if_eq (tgt := 60) hx hb d_V_many_45 (by decide) (fun _ => ?_) (fun c8 => absurd c8 (by decide))
    refine lv_iconst (v := (-1)) hx hb d_V_many_60 (by decide) ?_
    exact z_iretR hx hb hr hlocks d_V_many_61 (by unfold a_many; rw [hr5])
  · obtain ⟨ht4, hw4, hl4⟩ := vOK_get hV hr5
    obtain ⟨hh4, hnb4⟩ := rv_hd hw4 hq4
    obtain ⟨c4, ec4, hc4⟩ := wty_pow hw4
    rw [ec4] at hq4
    cases c4 with
    | num z4 =>
      obtain ⟨d4, oa4, hna4, od4, hnd4⟩ := rv_num.mp hq4
      have hnb4 : nb z4.natAbs ≤ 1024 := nb_lt.mpr hc4.2.2.1
      refine lv_astore_n (lv' := [(2, .ref a3), (0, .ref vv), (1, .int r)]) hx hb d_V_many_5 rfl hl (by decide) rfl (fun ls hl => ?_)
      refine lv_aload_n hx hb d_V_many_6 rfl (lv_at hl 0 rfl) ?_
      refine va_instNo (C := "ValueTrees$Whole") hx hb hown (ht _ q328) (hK.2.1 _ nc_Whole_Chain) (z_recv hK oa4 rfl) d_V_many_7 ?_
      refine lv_if_eq (tgt := 23) hx hb d_V_many_10 (by decide) (fun _ => ?_) (fun c9 => absurd c9 (by decide))
      refine lv_aload_n hx hb d_V_many_23 rfl (lv_at hl 0 rfl) ?_
      refine va_instNo (C := "ValueTrees$Whole") hx hb hown (ht _ q349) (hK.2.1 _ nc_Whole_Tree) (z_recv hK oa4 rfl) d_V_many_24 ?_
      refine lv_if_eq (tgt := 41) hx hb d_V_many_27 (by decide) (fun _ => ?_) (fun c10 => absurd c10 (by decide))
      refine lv_aload_n hx hb d_V_many_41 rfl (lv_at hl 0 rfl) ?_
      refine va_instNo (C := "ValueTrees$Whole") hx hb hown (ht _ q283) (hK.2.1 _ nc_Whole_Row) (z_recv hK oa4 rfl) d_V_many_42 ?_
      refine lv_if_eq (tgt := 60) hx hb d_V_many_45 (by decide) (fun _ => ?_) (fun c11 => absurd c11 (by decide))
      refine lv_iconst (v := (-1)) hx hb d_V_many_60 (by decide) ?_
      exact z_iretR hx hb hr hlocks d_V_many_61 (by unfold a_many; rw [hr5, ec4]; rfl)
    | natCast k4 =>
      obtain ⟨x4, oa4, hna4, hx4⟩ := rv_row.mp hq4
      have hk4 : k4 % 16 ≤ 8 := hc4.2.2.1
      refine lv_astore_n (lv' := [(2, .ref a3), (0, .ref vv), (1, .int r)]) hx hb d_V_many_5 rfl hl (by decide) rfl (fun ls hl => ?_)
      refine lv_aload_n hx hb d_V_many_6 rfl (lv_at hl 0 rfl) ?_
      refine va_instNo (C := "ValueTrees$Row") hx hb hown (ht _ q328) (hK.2.1 _ nc_Row_Chain) (z_recv hK oa4 rfl) d_V_many_7 ?_
      refine lv_if_eq (tgt := 23) hx hb d_V_many_10 (by decide) (fun _ => ?_) (fun c12 => absurd c12 (by decide))
      refine lv_aload_n hx hb d_V_many_23 rfl (lv_at hl 0 rfl) ?_
      refine va_instNo (C := "ValueTrees$Row") hx hb hown (ht _ q349) (hK.2.1 _ nc_Row_Tree) (z_recv hK oa4 rfl) d_V_many_24 ?_
      refine lv_if_eq (tgt := 41) hx hb d_V_many_27 (by decide) (fun _ => ?_) (fun c13 => absurd c13 (by decide))
      refine lv_aload_n hx hb d_V_many_41 rfl (lv_at hl 0 rfl) ?_
      refine va_instE hx hb hown (ht _ q283) (z_recv hK oa4 rfl) d_V_many_42 ?_
      refine lv_if_eq (tgt := 60) hx hb d_V_many_45 (by decide) (fun c14 => absurd c14 (by decide)) (fun _ => ?_)
      refine lv_aload_n hx hb d_V_many_48 rfl (lv_at hl 0 rfl) ?_
      refine va_castE hx hb hown (ht _ q283) (z_recv hK oa4 rfl) d_V_many_49 ?_
      refine lv_astore_n (lv' := [(3, .ref a3), (2, .ref a3), (0, .ref vv), (1, .int r)]) hx hb d_V_many_52 rfl hl (by decide) rfl (fun ls hl => ?_)
      refine lv_aload_n hx hb d_V_many_53 rfl (lv_at hl 0 rfl) ?_
      refine va_get (D := D) (ci := 3) (v := .int (nI (k4 % 16))) (C := "ValueTrees$Row") (T := T_Row) (N := 4) hx hb ht in_Row hown hK.1 (z_1 oa4) 0 rfl rfl 3 (by decide) (ht _ q291) (fun _ h9 => h9) rfl d_V_many_54 ?_
      refine lv_goto (tgt := 61) hx hb d_V_many_57 (by decide) ?_
      exact z_iretR hx hb hr hlocks d_V_many_61 (by unfold a_many; rw [hr5, ec4]; rfl)
    | intCast k4 =>
      obtain ⟨oa4, hna4⟩ := rv_nil.mp hq4
      refine lv_astore_n (lv' := [(2, .ref a3), (0, .ref vv), (1, .int r)]) hx hb d_V_many_5 rfl hl (by decide) rfl (fun ls hl => ?_)
      refine lv_aload_n hx hb d_V_many_6 rfl (lv_at hl 0 rfl) ?_
      refine va_instE hx hb hown (ht _ q328) (z_recv hK oa4 rfl) d_V_many_7 ?_
      refine lv_if_eq (tgt := 23) hx hb d_V_many_10 (by decide) (fun c15 => absurd c15 (by decide)) (fun _ => ?_)
      refine lv_aload_n hx hb d_V_many_13 rfl (lv_at hl 0 rfl) ?_
      refine va_castE hx hb hown (ht _ q328) (z_recv hK oa4 rfl) d_V_many_14 ?_
      refine lv_astore_n (lv' := [(3, .ref a3), (2, .ref a3), (0, .ref vv), (1, .int r)]) hx hb d_V_many_17 rfl hl (by decide) rfl (fun ls hl => ?_)
      refine lv_aload_n hx hb d_V_many_18 rfl (lv_at hl 0 rfl) ?_
      refine va_get (D := D) (ci := 6) (v := .int 0) (C := "ValueTrees$Chain") (T := T_Chain) (N := 5) hx hb ht in_Chain hown hK.1 (z_1 oa4) 0 rfl rfl 4 (by decide) (ht _ q339) (fun _ h9 => h9) rfl d_V_many_19 ?_
      exact z_iretR hx hb hr hlocks d_V_many_22 (by unfold a_many; rw [hr5, ec4]; rfl)
    | var i4 =>
      obtain ⟨oa4, hna4⟩ := rv_var.mp hq4
      refine lv_astore_n (lv' := [(2, .ref a3), (0, .ref vv), (1, .int r)]) hx hb d_V_many_5 rfl hl (by decide) rfl (fun ls hl => ?_)
      refine lv_aload_n hx hb d_V_many_6 rfl (lv_at hl 0 rfl) ?_
      refine va_instNo (C := "ValueTrees$Choice") hx hb hown (ht _ q328) (hK.2.1 _ nc_Choice_Chain) (z_recv hK oa4 rfl) d_V_many_7 ?_
      refine lv_if_eq (tgt := 23) hx hb d_V_many_10 (by decide) (fun _ => ?_) (fun c16 => absurd c16 (by decide))
      refine lv_aload_n hx hb d_V_many_23 rfl (lv_at hl 0 rfl) ?_
      refine va_instNo (C := "ValueTrees$Choice") hx hb hown (ht _ q349) (hK.2.1 _ nc_Choice_Tree) (z_recv hK oa4 rfl) d_V_many_24 ?_
      refine lv_if_eq (tgt := 41) hx hb d_V_many_27 (by decide) (fun _ => ?_) (fun c17 => absurd c17 (by decide))
      refine lv_aload_n hx hb d_V_many_41 rfl (lv_at hl 0 rfl) ?_
      refine va_instNo (C := "ValueTrees$Choice") hx hb hown (ht _ q283) (hK.2.1 _ nc_Choice_Row) (z_recv hK oa4 rfl) d_V_many_42 ?_
      refine lv_if_eq (tgt := 60) hx hb d_V_many_45 (by decide) (fun _ => ?_) (fun c18 => absurd c18 (by decide))
      refine lv_iconst (v := (-1)) hx hb d_V_many_60 (by decide) ?_
      exact z_iretR hx hb hr hlocks d_V_many_61 (by unfold a_many; rw [hr5, ec4]; rfl)
    | neg ch4 =>
      obtain ⟨e4, f4, oa4, hna4, oe4, hne4, hch4⟩ := rv_neg.mp hq4
      refine lv_astore_n (lv' := [(2, .ref a3), (0, .ref vv), (1, .int r)]) hx hb d_V_many_5 rfl hl (by decide) rfl (fun ls hl => ?_)
      refine lv_aload_n hx hb d_V_many_6 rfl (lv_at hl 0 rfl) ?_
      refine va_instNo (C := "ValueTrees$Tree") hx hb hown (ht _ q328) (hK.2.1 _ nc_Tree_Chain) (z_recv hK oa4 rfl) d_V_many_7 ?_
      refine lv_if_eq (tgt := 23) hx hb d_V_many_10 (by decide) (fun _ => ?_) (fun c19 => absurd c19 (by decide))
      refine lv_aload_n hx hb d_V_many_23 rfl (lv_at hl 0 rfl) ?_
      refine va_instE hx hb hown (ht _ q349) (z_recv hK oa4 rfl) d_V_many_24 ?_
      refine lv_if_eq (tgt := 41) hx hb d_V_many_27 (by decide) (fun c20 => absurd c20 (by decide)) (fun _ => ?_)
      refine lv_aload_n hx hb d_V_many_30 rfl (lv_at hl 0 rfl) ?_
      refine va_castE hx hb hown (ht _ q349) (z_recv hK oa4 rfl) d_V_many_31 ?_
      refine lv_astore_n (lv' := [(3, .ref a3), (2, .ref a3), (0, .ref vv), (1, .int r)]) hx hb d_V_many_34 rfl hl (by decide) rfl (fun ls hl => ?_)
      refine lv_aload_n hx hb d_V_many_35 rfl (lv_at hl 0 rfl) ?_
      refine va_get (D := D) (ci := 7) (v := .ref e4) (C := "ValueTrees$Tree") (T := T_Tree) (N := 3) hx hb ht in_Tree hown hK.1 (z_1 oa4) 0 rfl rfl 2 (by decide) (ht _ q358) (fun _ h9 => h9) rfl d_V_many_36 ?_
      refine z_alen hx hb hK oe4 rfl d_V_many_39 ?_
      exact z_iretR hx hb hr hlocks d_V_many_40 (by unfold a_many; rw [hr5, ec4]; rfl)
    | add x4 y4 =>
      obtain ⟨b4, d4, oa4, hna4, hb4, hd4⟩ := rv_add.mp hq4
      refine lv_astore_n (lv' := [(2, .ref a3), (0, .ref vv), (1, .int r)]) hx hb d_V_many_5 rfl hl (by decide) rfl (fun ls hl => ?_)
      refine lv_aload_n hx hb d_V_many_6 rfl (lv_at hl 0 rfl) ?_
      refine va_instNo (C := "ValueTrees$Couple") hx hb hown (ht _ q328) (hK.2.1 _ nc_Couple_Chain) (z_recv hK oa4 rfl) d_V_many_7 ?_
      refine lv_if_eq (tgt := 23) hx hb d_V_many_10 (by decide) (fun _ => ?_) (fun c21 => absurd c21 (by decide))
      refine lv_aload_n hx hb d_V_many_23 rfl (lv_at hl 0 rfl) ?_
      refine va_instNo (C := "ValueTrees$Couple") hx hb hown (ht _ q349) (hK.2.1 _ nc_Couple_Tree) (z_recv hK oa4 rfl) d_V_many_24 ?_
      refine lv_if_eq (tgt := 41) hx hb d_V_many_27 (by decide) (fun _ => ?_) (fun c22 => absurd c22 (by decide))
      refine lv_aload_n hx hb d_V_many_41 rfl (lv_at hl 0 rfl) ?_
      refine va_instNo (C := "ValueTrees$Couple") hx hb hown (ht _ q283) (hK.2.1 _ nc_Couple_Row) (z_recv hK oa4 rfl) d_V_many_42 ?_
      refine lv_if_eq (tgt := 60) hx hb d_V_many_45 (by decide) (fun _ => ?_) (fun c23 => absurd c23 (by decide))
      refine lv_iconst (v := (-1)) hx hb d_V_many_60 (by decide) ?_
      exact z_iretR hx hb hr hlocks d_V_many_61 (by unfold a_many; rw [hr5, ec4]; rfl)
    | sub a4 x4 =>
      obtain ⟨b4, oa4, hna4, hb4⟩ := rv_sub.mp hq4
      refine lv_astore_n (lv' := [(2, .ref a3), (0, .ref vv), (1, .int r)]) hx hb d_V_many_5 rfl hl (by decide) rfl (fun ls hl => ?_)
      refine lv_aload_n hx hb d_V_many_6 rfl (lv_at hl 0 rfl) ?_
      refine va_instNo (C := "ValueTrees$Choice") hx hb hown (ht _ q328) (hK.2.1 _ nc_Choice_Chain) (z_recv hK oa4 rfl) d_V_many_7 ?_
      refine lv_if_eq (tgt := 23) hx hb d_V_many_10 (by decide) (fun _ => ?_) (fun c24 => absurd c24 (by decide))
      refine lv_aload_n hx hb d_V_many_23 rfl (lv_at hl 0 rfl) ?_
      refine va_instNo (C := "ValueTrees$Choice") hx hb hown (ht _ q349) (hK.2.1 _ nc_Choice_Tree) (z_recv hK oa4 rfl) d_V_many_24 ?_
      refine lv_if_eq (tgt := 41) hx hb d_V_many_27 (by decide) (fun _ => ?_) (fun c25 => absurd c25 (by decide))
      refine lv_aload_n hx hb d_V_many_41 rfl (lv_at hl 0 rfl) ?_
      refine va_instNo (C := "ValueTrees$Choice") hx hb hown (ht _ q283) (hK.2.1 _ nc_Choice_Row) (z_recv hK oa4 rfl) d_V_many_42 ?_
      refine lv_if_eq (tgt := 60) hx hb d_V_many_45 (by decide) (fun _ => ?_) (fun c26 => absurd c26 (by decide))
      refine lv_iconst (v := (-1)) hx hb d_V_many_60 (by decide) ?_
      exact z_iretR hx hb hr hlocks d_V_many_61 (by unfold a_many; rw [hr5, ec4]; rfl)
    | mul x4 y4 =>
      obtain ⟨b4, d4, oa4, hna4, hb4, hd4⟩ := rv_mul.mp hq4
      refine lv_astore_n (lv' := [(2, .ref a3), (0, .ref vv), (1, .int r)]) hx hb d_V_many_5 rfl hl (by decide) rfl (fun ls hl => ?_)
      refine lv_aload_n hx hb d_V_many_6 rfl (lv_at hl 0 rfl) ?_
      refine va_instE hx hb hown (ht _ q328) (z_recv hK oa4 rfl) d_V_many_7 ?_
      refine lv_if_eq (tgt := 23) hx hb d_V_many_10 (by decide) (fun c27 => absurd c27 (by decide)) (fun _ => ?_)
      refine lv_aload_n hx hb d_V_many_13 rfl (lv_at hl 0 rfl) ?_
      refine va_castE hx hb hown (ht _ q328) (z_recv hK oa4 rfl) d_V_many_14 ?_
      refine lv_astore_n (lv' := [(3, .ref a3), (2, .ref a3), (0, .ref vv), (1, .int r)]) hx hb d_V_many_17 rfl hl (by decide) rfl (fun ls hl => ?_)
      refine lv_aload_n hx hb d_V_many_18 rfl (lv_at hl 0 rfl) ?_
      refine va_get (D := D) (ci := 6) (v := .int (nI (clen (.mul x4 y4)))) (C := "ValueTrees$Chain") (T := T_Chain) (N := 5) hx hb ht in_Chain hown hK.1 (z_1 oa4) 0 rfl rfl 4 (by decide) (ht _ q339) (fun _ h9 => h9) rfl d_V_many_19 ?_
      exact z_iretR hx hb hr hlocks d_V_many_22 (by unfold a_many; rw [hr5, ec4]; rfl)
    | pow c8 t8 => exact absurd hc4.1 (by decide)
abbrev b_V_digit : ByteArray := prog_1_method_23_code
abbrev y_V_digit : MethodName := ⟨"ValueTrees", "digit", "(II)I"⟩
abbrev w_V_digit : List Cond := .code y_V_digit b_V_digit 5 (Option.some .int) :: gt
theorem hd_V_digit : (y_V_digit).cls ≠ "java/lang/invoke/MethodHandle" ∧ (y_V_digit).cls ≠ "java/lang/invoke/VarHandle" ∧ (parseMethodDescriptor (y_V_digit).desc).map (fun d => d.parameters.length) = some 2 := by decide +kernel
theorem d_V_digit_0 : decode b_V_digit 0 = .ok (.aload_n 0, 1) := by decide +kernel
theorem d_V_digit_1 : decode b_V_digit 1 = .ok (.iload_n 1, 1) := by decide +kernel
theorem d_V_digit_2 : decode b_V_digit 2 = .ok (.invokevirtual 77, 3) := by decide +kernel
theorem d_V_digit_5 : decode b_V_digit 5 = .ok (.astore 4, 2) := by decide +kernel
theorem d_V_digit_7 : decode b_V_digit 7 = .ok (.aload 4, 2) := by decide +kernel
theorem d_V_digit_9 : decode b_V_digit 9 = .ok (.instanceof 64, 3) := by decide +kernel
theorem d_V_digit_12 : decode b_V_digit 12 = .ok (.ifCond .eq 13, 3) := by decide +kernel
theorem d_V_digit_15 : decode b_V_digit 15 = .ok (.aload 4, 2) := by decide +kernel
theorem d_V_digit_17 : decode b_V_digit 17 = .ok (.checkcast 64, 3) := by decide +kernel
theorem d_V_digit_20 : decode b_V_digit 20 = .ok (.astore_n 3, 1) := by decide +kernel
theorem d_V_digit_21 : decode b_V_digit 21 = .ok (.iload_n 2, 1) := by decide +kernel
theorem d_V_digit_22 : decode b_V_digit 22 = .ok (.ifCond .ge 5, 3) := by decide +kernel
theorem d_V_digit_25 : decode b_V_digit 25 = .ok (.iconst (-1), 1) := by decide +kernel
theorem d_V_digit_26 : decode b_V_digit 26 = .ok (.ireturn, 1) := by decide +kernel
theorem d_V_digit_27 : decode b_V_digit 27 = .ok (.iload_n 2, 1) := by decide +kernel
theorem d_V_digit_28 : decode b_V_digit 28 = .ok (.aload_n 3, 1) := by decide +kernel
theorem d_V_digit_29 : decode b_V_digit 29 = .ok (.getfield 91, 3) := by decide +kernel
theorem d_V_digit_32 : decode b_V_digit 32 = .ok (.arraylength, 1) := by decide +kernel
theorem d_V_digit_33 : decode b_V_digit 33 = .ok (.if_icmp .ge 12, 3) := by decide +kernel
theorem d_V_digit_36 : decode b_V_digit 36 = .ok (.aload_n 3, 1) := by decide +kernel
theorem d_V_digit_37 : decode b_V_digit 37 = .ok (.getfield 91, 3) := by decide +kernel
theorem d_V_digit_40 : decode b_V_digit 40 = .ok (.iload_n 2, 1) := by decide +kernel
theorem d_V_digit_41 : decode b_V_digit 41 = .ok (.iaload, 1) := by decide +kernel
theorem d_V_digit_42 : decode b_V_digit 42 = .ok (.goto 4, 3) := by decide +kernel
theorem d_V_digit_45 : decode b_V_digit 45 = .ok (.iconst 0, 1) := by decide +kernel
theorem d_V_digit_46 : decode b_V_digit 46 = .ok (.ireturn, 1) := by decide +kernel
set_option maxHeartbeats 4000000 in
set_option maxRecDepth 100000 in
theorem p_V_digit (l : Launch) (D : va_G) (dT : Nat → ClassId) (H : Heap) (Bq : Nat → Prop) (vv rg li ed : Nat) (tb : Nat → TR) (tc : Nat) (RV : Nat → Option VT) (hC : cI D dT Bq vv rg li ed tb tc RV H) (hV : vOK tb tc RV) (r i : Int32) : Met l y_V_digit w_V_digit ({ frames := 2, cells := 0, slots := 0, locals := 41 }) (z_P D dT [.ref vv, .int r, .int i] H) (z_R (fun v => v = .int (a_digit RV r i))) 0 0 (fun _ => False) := by
  obtain ⟨⟨hBs, hBr, hBl, hBe, hBv, hrl, hre, hle⟩, hvv, hCR, hCT⟩ := id hC
  have hO := hV.1
  have htc := hO.1
  have htc10 := hO.2.1
  refine Met.ofW (cc := b_V_digit) (maxL := 5) (ret := (Option.some .int)) (by decide) rfl ?_
  intro p e s m args below meth c s₁ B hml hv
  obtain ⟨rfl, rfl, hK⟩ := hv
  have hx := B.exec
  have hb := B.bytes
  have hr := B.returns
  have hts := atoms_spec (ws := w_V_digit) B.pre
  have ht : ∀ w9 ∈ gt, w9.before [.ref vv, .int r, .int i].toArray s = true := fun w9 h => hts w9 (List.mem_cons_of_mem _ h)
  have hown : s.vm.findClass "ValueTrees" = some m.cls := findClass_of_methodNamed B.named
  have hlocks := B.notSynchronized
  have hl := lv_entry ([.ref vv, .int r, .int i]) (n := 5) (Nat.le_of_ble_eq_true rfl)
  rw [lg_entry_eq]
  generalize (lg_sl ([.ref vv, .int r, .int i]) ++ List.replicate (5 - (lg_sl ([.ref vv, .int r, .int i])).length) Slot.unset).toArray = ls at hl ⊢
  have hl : lv_has ls 5 [(0, .ref vv), (1, .int r), (2, .int i)] := hl
  refine lv_aload_n hx hb d_V_digit_0 rfl (lv_at hl 0 rfl) ?_
  refine lv_iload_n hx hb d_V_digit_1 rfl (lv_at hl 1 rfl) ?_
  refine z_callR (va_runV (C := "ValueTrees") (As := [.int r]) (rest := []) ⟨hx, hb, hml, hown, hts⟩ (c_V_held l D dT _ Bq vv rg li ed tb tc RV hC hV r) ⟨callB_of 1 hts (gI gd_up gd_c q275) rfl rfl rfl (ht _ q1) (ht _ q272) hd_V_held ⟨Nat.le_of_ble_eq_true rfl, Nat.le_of_ble_eq_true rfl⟩, ht _ q274, ht _ qs7⟩ (z_preV hK (va_recv hK.1 (z_1 hvv) (ci := 0) (q0 := 0) rfl rfl)) rfl rfl hl.1 rfl (lv_room (Nat.le_of_ble_eq_true rfl)) d_V_digit_2 ⟨Nat.zero_le _, Nat.zero_le _⟩) (fun v2 hv1 => ?_)
  rcases hv1 with ⟨rfl, hr5⟩ | ⟨a3, v4, rfl, hr5, hq4⟩
  · refine lv_astoreN (lv' := [(4, .null), (0, .ref vv), (1, .int r), (2, .int i)]) hx hb d_V_digit_5 hl (by decide) rfl (fun ls hl => ?_)
    refine lv_aloadN hx hb d_V_digit_7 (lv_at hl 0 rfl) ?_
    refine lv_instN hx hb d_V_digit_9 ?_
    refine lv_if_eq (tgt := 25) hx hb d_V_digit_12 (by decide) (fun _ => ?_) (fun c6 => absurd c6 (by decide))
    refine lv_iconst (v := (-1)) hx hb d_V_digit_25 (by decide) ?_
    exact z_iretR hx hb hr hlocks d_V_digit_26 (by unfold a_digit; rw [rb_none hr5])
  · obtain ⟨ht4, hw4, hl4⟩ := vOK_get hV hr5
    obtain ⟨hh4, hnb4⟩ := rv_hd hw4 hq4
    obtain ⟨c4, ec4, hc4⟩ := wty_pow hw4
    rw [ec4] at hq4
    cases c4 with
    | num z4 =>
      obtain ⟨d4, oa4, hna4, od4, hnd4⟩ := rv_num.mp hq4
      have hnb4 : nb z4.natAbs ≤ 1024 := nb_lt.mpr hc4.2.2.1
      refine lv_astore (lv' := [(4, .ref a3), (0, .ref vv), (1, .int r), (2, .int i)]) hx hb d_V_digit_5 hl (by decide) rfl (fun ls hl => ?_)
      refine lv_aload hx hb d_V_digit_7 (lv_at hl 0 rfl) ?_
      refine va_instE hx hb hown (ht _ q205) (z_recv hK oa4 rfl) d_V_digit_9 ?_
      refine lv_if_eq (tgt := 25) hx hb d_V_digit_12 (by decide) (fun c7 => absurd c7 (by decide)) (fun _ => ?_)
      refine lv_aload hx hb d_V_digit_15 (lv_at hl 0 rfl) ?_
      refine va_castE hx hb hown (ht _ q205) (z_recv hK oa4 rfl) d_V_digit_17 ?_
      refine lv_astore_n (lv' := [(3, .ref a3), (4, .ref a3), (0, .ref vv), (1, .int r), (2, .int i)]) hx hb d_V_digit_20 rfl hl (by decide) rfl (fun ls hl => ?_)
      refine lv_iload_n hx hb d_V_digit_21 rfl (lv_at hl 4 rfl) ?_
      refine lv_if_ge (tgt := 27) hx hb d_V_digit_22 (by decide) (fun c8 => ?_) (fun c8 => ?_)
      · obtain ⟨ii, hii, rfl⟩ := nI_of (x := i) (Int32.not_lt.mpr c8)
        refine lv_iload_n hx hb d_V_digit_27 rfl (lv_at hl 4 rfl) ?_
        refine lv_aload_n hx hb d_V_digit_28 rfl (lv_at hl 0 rfl) ?_
        refine va_get (D := D) (ci := 2) (v := .ref d4) (C := "ValueTrees$Whole") (T := T_Whole) (N := 5) hx hb ht in_Whole hown hK.1 (z_1 oa4) 0 rfl rfl 4 (by decide) (ht _ q229) (fun _ h9 => h9) rfl d_V_digit_29 ?_
        refine z_alen hx hb hK od4 rfl d_V_digit_32 ?_
        refine lv_icmp_ge (tgt := 45) hx hb d_V_digit_33 (by decide) (fun c9 => ?_) (fun c9 => ?_)
        · have nc9 : ((nb z4.natAbs + 15) / 16) ≤ ii := (nI_leI (a := ((nb z4.natAbs + 15) / 16)) (b := ii) (by omega) (by omega)).mp c9
          refine lv_iconst (v := 0) hx hb d_V_digit_45 (by decide) ?_
          exact z_iretR hx hb hr hlocks d_V_digit_46 (by unfold a_digit; rw [rb_some hr5, ec4]; show _ = Value.int (if nI ii < 0 then -1 else nI (z4.natAbs / 2 ^ (16 * (nI ii).toNatClampNeg) % 65536)); rw [if_neg (Int32.not_lt.mpr (nI_pos' (by omega))), nI_clamp (by omega), dig_0 (by omega)]; rfl)
        · have nc9 : ¬ ((nb z4.natAbs + 15) / 16) ≤ ii := fun h9 => c9 ((nI_leI (a := ((nb z4.natAbs + 15) / 16)) (b := ii) (by omega) (by omega)).mpr h9)
          refine lv_aload_n hx hb d_V_digit_36 rfl (lv_at hl 0 rfl) ?_
          refine va_get (D := D) (ci := 2) (v := .ref d4) (C := "ValueTrees$Whole") (T := T_Whole) (N := 5) hx hb ht in_Whole hown hK.1 (z_1 oa4) 0 rfl rfl 4 (by decide) (ht _ q229) (fun _ h9 => h9) rfl d_V_digit_37 ?_
          refine lv_iload_n hx hb d_V_digit_40 rfl (lv_at hl 4 rfl) ?_
          refine z_iald hx hb hK od4 ii rfl (by omega) (by omega) d_V_digit_41 ?_
          refine lv_goto (tgt := 46) hx hb d_V_digit_42 (by decide) ?_
          exact z_iretR hx hb hr hlocks d_V_digit_46 (by unfold a_digit; rw [rb_some hr5, ec4]; show _ = Value.int (if nI ii < 0 then -1 else nI (z4.natAbs / 2 ^ (16 * (nI ii).toNatClampNeg) % 65536)); rw [if_neg (Int32.not_lt.mpr (nI_pos' (by omega))), nI_clamp (by omega), ← p65])
      · refine lv_iconst (v := (-1)) hx hb d_V_digit_25 (by decide) ?_
        exact z_iretR hx hb hr hlocks d_V_digit_26 (by unfold a_digit; rw [rb_some hr5, ec4]; exact congrArg Value.int (if_pos (Int32.not_le.mp c8)).symm)
    | natCast k4 =>
      obtain ⟨x4, oa4, hna4, hx4⟩ := rv_row.mp hq4
      have hk4 : k4 % 16 ≤ 8 := hc4.2.2.1
      refine lv_astore (lv' := [(4, .ref a3), (0, .ref vv), (1, .int r), (2, .int i)]) hx hb d_V_digit_5 hl (by decide) rfl (fun ls hl => ?_)
      refine lv_aload hx hb d_V_digit_7 (lv_at hl 0 rfl) ?_
      refine va_instNo (C := "ValueTrees$Row") hx hb hown (ht _ q205) (hK.2.1 _ nc_Row_Whole) (z_recv hK oa4 rfl) d_V_digit_9 ?_
      refine lv_if_eq (tgt := 25) hx hb d_V_digit_12 (by decide) (fun _ => ?_) (fun c10 => absurd c10 (by decide))
      refine lv_iconst (v := (-1)) hx hb d_V_digit_25 (by decide) ?_
      exact z_iretR hx hb hr hlocks d_V_digit_26 (by unfold a_digit; rw [rb_some hr5, ec4]; rfl)
    | intCast k4 =>
      obtain ⟨oa4, hna4⟩ := rv_nil.mp hq4
      refine lv_astore (lv' := [(4, .ref a3), (0, .ref vv), (1, .int r), (2, .int i)]) hx hb d_V_digit_5 hl (by decide) rfl (fun ls hl => ?_)
      refine lv_aload hx hb d_V_digit_7 (lv_at hl 0 rfl) ?_
      refine va_instNo (C := "ValueTrees$Chain") hx hb hown (ht _ q205) (hK.2.1 _ nc_Chain_Whole) (z_recv hK oa4 rfl) d_V_digit_9 ?_
      refine lv_if_eq (tgt := 25) hx hb d_V_digit_12 (by decide) (fun _ => ?_) (fun c11 => absurd c11 (by decide))
      refine lv_iconst (v := (-1)) hx hb d_V_digit_25 (by decide) ?_
      exact z_iretR hx hb hr hlocks d_V_digit_26 (by unfold a_digit; rw [rb_some hr5, ec4]; rfl)
    | var i4 =>
      obtain ⟨oa4, hna4⟩ := rv_var.mp hq4
      refine lv_astore (lv' := [(4, .ref a3), (0, .ref vv), (1, .int r), (2, .int i)]) hx hb d_V_digit_5 hl (by decide) rfl (fun ls hl => ?_)
      refine lv_aload hx hb d_V_digit_7 (lv_at hl 0 rfl) ?_
      refine va_instNo (C := "ValueTrees$Choice") hx hb hown (ht _ q205) (hK.2.1 _ nc_Choice_Whole) (z_recv hK oa4 rfl) d_V_digit_9 ?_
      refine lv_if_eq (tgt := 25) hx hb d_V_digit_12 (by decide) (fun _ => ?_) (fun c12 => absurd c12 (by decide))
      refine lv_iconst (v := (-1)) hx hb d_V_digit_25 (by decide) ?_
      exact z_iretR hx hb hr hlocks d_V_digit_26 (by unfold a_digit; rw [rb_some hr5, ec4]; rfl)
    | neg ch4 =>
      obtain ⟨e4, f4, oa4, hna4, oe4, hne4, hch4⟩ := rv_neg.mp hq4
      refine lv_astore (lv' := [(4, .ref a3), (0, .ref vv), (1, .int r), (2, .int i)]) hx hb d_V_digit_5 hl (by decide) rfl (fun ls hl => ?_)
      refine lv_aload hx hb d_V_digit_7 (lv_at hl 0 rfl) ?_
      refine va_instNo (C := "ValueTrees$Tree") hx hb hown (ht _ q205) (hK.2.1 _ nc_Tree_Whole) (z_recv hK oa4 rfl) d_V_digit_9 ?_
      refine lv_if_eq (tgt := 25) hx hb d_V_digit_12 (by decide) (fun _ => ?_) (fun c13 => absurd c13 (by decide))
      refine lv_iconst (v := (-1)) hx hb d_V_digit_25 (by decide) ?_
      exact z_iretR hx hb hr hlocks d_V_digit_26 (by unfold a_digit; rw [rb_some hr5, ec4]; rfl)
    | add x4 y4 =>
      obtain ⟨b4, d4, oa4, hna4, hb4, hd4⟩ := rv_add.mp hq4
      refine lv_astore (lv' := [(4, .ref a3), (0, .ref vv), (1, .int r), (2, .int i)]) hx hb d_V_digit_5 hl (by decide) rfl (fun ls hl => ?_)
      refine lv_aload hx hb d_V_digit_7 (lv_at hl 0 rfl) ?_
      refine va_instNo (C := "ValueTrees$Couple") hx hb hown (ht _ q205) (hK.2.1 _ nc_Couple_Whole) (z_recv hK oa4 rfl) d_V_digit_9 ?_
      refine lv_if_eq (tgt := 25) hx hb d_V_digit_12 (by decide) (fun _ => ?_) (fun c14 => absurd c14 (by decide))
      refine lv_iconst (v := (-1)) hx hb d_V_digit_25 (by decide) ?_
      exact z_iretR hx hb hr hlocks d_V_digit_26 (by unfold a_digit; rw [rb_some hr5, ec4]; rfl)
    | sub a4 x4 =>
      obtain ⟨b4, oa4, hna4, hb4⟩ := rv_sub.mp hq4
      refine lv_astore (lv' := [(4, .ref a3), (0, .ref vv), (1, .int r), (2, .int i)]) hx hb d_V_digit_5 hl (by decide) rfl (fun ls hl => ?_)
      refine lv_aload hx hb d_V_digit_7 (lv_at hl 0 rfl) ?_
      refine va_instNo (C := "ValueTrees$Choice") hx hb hown (ht _ q205) (hK.2.1 _ nc_Choice_Whole) (z_recv hK oa4 rfl) d_V_digit_9 ?_
      refine lv_if_eq (tgt := 25) hx hb d_V_digit_12 (by decide) (fun _ => ?_) (fun c15 => absurd c15 (by decide))
      refine lv_iconst (v := (-1)) hx hb d_V_digit_25 (by decide) ?_
      exact z_iretR hx hb hr hlocks d_V_digit_26 (by unfold a_digit; rw [rb_some hr5, ec4]; rfl)
    | mul x4 y4 =>
      obtain ⟨b4, d4, oa4, hna4, hb4, hd4⟩ := rv_mul.mp hq4
      refine lv_astore (lv' := [(4, .ref a3), (0, .ref vv), (1, .int r), (2, .int i)]) hx hb d_V_digit_5 hl (by decide) rfl (fun ls hl => ?_)
      refine lv_aload hx hb d_V_digit_7 (lv_at hl 0 rfl) ?_
      refine va_instNo (C := "ValueTrees$Chain") hx hb hown (ht _ q205) (hK.2.1 _ nc_Chain_Whole) (z_recv hK oa4 rfl) d_V_digit_9 ?_
      refine lv_if_eq (tgt := 25) hx hb d_V_digit_12 (by decide) (fun _ => ?_) (fun c16 => absurd c16 (by decide))
      refine lv_iconst (v := (-1)) hx hb d_V_digit_25 (by decide) ?_
      exact z_iretR hx hb hr hlocks d_V_digit_26 (by unfold a_digit; rw [rb_some hr5, ec4]; rfl)
    | pow c8 t8 => exact absurd hc4.1 (by decide)
abbrev b_V_isBelow : ByteArray := prog_1_method_24_code
abbrev y_V_isBelow : MethodName := ⟨"ValueTrees", "isBelow", "(I)Z"⟩
abbrev w_V_isBelow : List Cond := .code y_V_isBelow b_V_isBelow 4 (Option.some .boolean) :: gt
theorem hd_V_isBelow : (y_V_isBelow).cls ≠ "java/lang/invoke/MethodHandle" ∧ (y_V_isBelow).cls ≠ "java/lang/invoke/VarHandle" ∧ (parseMethodDescriptor (y_V_isBelow).desc).map (fun d => d.parameters.length) = some 1 := by decide +kernel
theorem d_V_isBelow_0 : decode b_V_isBelow 0 = .ok (.aload_n 0, 1) := by decide +kernel
theorem d_V_isBelow_1 : decode b_V_isBelow 1 = .ok (.iload_n 1, 1) := by decide +kernel
theorem d_V_isBelow_2 : decode b_V_isBelow 2 = .ok (.invokevirtual 77, 3) := by decide +kernel
theorem d_V_isBelow_5 : decode b_V_isBelow 5 = .ok (.astore_n 3, 1) := by decide +kernel
theorem d_V_isBelow_6 : decode b_V_isBelow 6 = .ok (.aload_n 3, 1) := by decide +kernel
theorem d_V_isBelow_7 : decode b_V_isBelow 7 = .ok (.instanceof 64, 3) := by decide +kernel
theorem d_V_isBelow_10 : decode b_V_isBelow 10 = .ok (.ifCond .eq 19, 3) := by decide +kernel
theorem d_V_isBelow_13 : decode b_V_isBelow 13 = .ok (.aload_n 3, 1) := by decide +kernel
theorem d_V_isBelow_14 : decode b_V_isBelow 14 = .ok (.checkcast 64, 3) := by decide +kernel
theorem d_V_isBelow_17 : decode b_V_isBelow 17 = .ok (.astore_n 2, 1) := by decide +kernel
theorem d_V_isBelow_18 : decode b_V_isBelow 18 = .ok (.aload_n 2, 1) := by decide +kernel
theorem d_V_isBelow_19 : decode b_V_isBelow 19 = .ok (.getfield 87, 3) := by decide +kernel
theorem d_V_isBelow_22 : decode b_V_isBelow 22 = .ok (.ifCond .eq 7, 3) := by decide +kernel
theorem d_V_isBelow_25 : decode b_V_isBelow 25 = .ok (.iconst 1, 1) := by decide +kernel
theorem d_V_isBelow_26 : decode b_V_isBelow 26 = .ok (.goto 4, 3) := by decide +kernel
theorem d_V_isBelow_29 : decode b_V_isBelow 29 = .ok (.iconst 0, 1) := by decide +kernel
theorem d_V_isBelow_30 : decode b_V_isBelow 30 = .ok (.ireturn, 1) := by decide +kernel
set_option maxHeartbeats 4000000 in
set_option maxRecDepth 100000 in
theorem p_V_isBelow (l : Launch) (D : va_G) (dT : Nat → ClassId) (H : Heap) (Bq : Nat → Prop) (vv rg li ed : Nat) (tb : Nat → TR) (tc : Nat) (RV : Nat → Option VT) (hC : cI D dT Bq vv rg li ed tb tc RV H) (hV : vOK tb tc RV) (r : Int32) : Met l y_V_isBelow w_V_isBelow ({ frames := 2, cells := 0, slots := 0, locals := 41 }) (z_P D dT [.ref vv, .int r] H) (z_R (fun v => v = .int (a_below RV r))) 0 0 (fun _ => False) := by
  obtain ⟨⟨hBs, hBr, hBl, hBe, hBv, hrl, hre, hle⟩, hvv, hCR, hCT⟩ := id hC
  have hO := hV.1
  have htc := hO.1
  have htc10 := hO.2.1
  refine Met.ofW (cc := b_V_isBelow) (maxL := 4) (ret := (Option.some .boolean)) (by decide) rfl ?_
  intro p e s m args below meth c s₁ B hml hv
  obtain ⟨rfl, rfl, hK⟩ := hv
  have hx := B.exec
  have hb := B.bytes
  have hr := B.returns
  have hts := atoms_spec (ws := w_V_isBelow) B.pre
  have ht : ∀ w9 ∈ gt, w9.before [.ref vv, .int r].toArray s = true := fun w9 h => hts w9 (List.mem_cons_of_mem _ h)
  have hown : s.vm.findClass "ValueTrees" = some m.cls := findClass_of_methodNamed B.named
  have hlocks := B.notSynchronized
  have hl := lv_entry ([.ref vv, .int r]) (n := 4) (Nat.le_of_ble_eq_true rfl)
  rw [lg_entry_eq]
  generalize (lg_sl ([.ref vv, .int r]) ++ List.replicate (4 - (lg_sl ([.ref vv, .int r])).length) Slot.unset).toArray = ls at hl ⊢
  have hl : lv_has ls 4 [(0, .ref vv), (1, .int r)] := hl
  refine lv_aload_n hx hb d_V_isBelow_0 rfl (lv_at hl 0 rfl) ?_
  refine lv_iload_n hx hb d_V_isBelow_1 rfl (lv_at hl 1 rfl) ?_
  refine z_callR (va_runV (C := "ValueTrees") (As := [.int r]) (rest := []) ⟨hx, hb, hml, hown, hts⟩ (c_V_held l D dT _ Bq vv rg li ed tb tc RV hC hV r) ⟨callB_of 1 hts (gI gd_up gd_c q275) rfl rfl rfl (ht _ q1) (ht _ q272) hd_V_held ⟨Nat.le_of_ble_eq_true rfl, Nat.le_of_ble_eq_true rfl⟩, ht _ q274, ht _ qs7⟩ (z_preV hK (va_recv hK.1 (z_1 hvv) (ci := 0) (q0 := 0) rfl rfl)) rfl rfl hl.1 rfl (lv_room (Nat.le_of_ble_eq_true rfl)) d_V_isBelow_2 ⟨Nat.zero_le _, Nat.zero_le _⟩) (fun v2 hv1 => ?_)
  rcases hv1 with ⟨rfl, hr5⟩ | ⟨a3, v4, rfl, hr5, hq4⟩
  · refine lv_astore_nN (lv' := [(3, .null), (0, .ref vv), (1, .int r)]) hx hb d_V_isBelow_5 rfl hl (by decide) rfl (fun ls hl => ?_)
    refine lv_aload_nN hx hb d_V_isBelow_6 rfl (lv_at hl 0 rfl) ?_
    refine lv_instN hx hb d_V_isBelow_7 ?_
    refine lv_if_eq (tgt := 29) hx hb d_V_isBelow_10 (by decide) (fun _ => ?_) (fun c6 => absurd c6 (by decide))
    refine lv_iconst (v := 0) hx hb d_V_isBelow_29 (by decide) ?_
    exact z_zretR hx hb hr hlocks d_V_isBelow_30 rfl (by unfold a_below; rw [rb_none hr5])
  · obtain ⟨ht4, hw4, hl4⟩ := vOK_get hV hr5
    obtain ⟨hh4, hnb4⟩ := rv_hd hw4 hq4
    obtain ⟨c4, ec4, hc4⟩ := wty_pow hw4
    rw [ec4] at hq4
    cases c4 with
    | num z4 =>
      obtain ⟨d4, oa4, hna4, od4, hnd4⟩ := rv_num.mp hq4
      have hnb4 : nb z4.natAbs ≤ 1024 := nb_lt.mpr hc4.2.2.1
      refine lv_astore_n (lv' := [(3, .ref a3), (0, .ref vv), (1, .int r)]) hx hb d_V_isBelow_5 rfl hl (by decide) rfl (fun ls hl => ?_)
      refine lv_aload_n hx hb d_V_isBelow_6 rfl (lv_at hl 0 rfl) ?_
      refine va_instE hx hb hown (ht _ q205) (z_recv hK oa4 rfl) d_V_isBelow_7 ?_
      refine lv_if_eq (tgt := 29) hx hb d_V_isBelow_10 (by decide) (fun c7 => absurd c7 (by decide)) (fun _ => ?_)
      refine lv_aload_n hx hb d_V_isBelow_13 rfl (lv_at hl 0 rfl) ?_
      refine va_castE hx hb hown (ht _ q205) (z_recv hK oa4 rfl) d_V_isBelow_14 ?_
      refine lv_astore_n (lv' := [(2, .ref a3), (3, .ref a3), (0, .ref vv), (1, .int r)]) hx hb d_V_isBelow_17 rfl hl (by decide) rfl (fun ls hl => ?_)
      by_cases hz9 : z4 < 0
      · rw [if_pos hz9] at oa4
        refine lv_aload_n hx hb d_V_isBelow_18 rfl (lv_at hl 0 rfl) ?_
        refine va_get (D := D) (ci := 2) (v := .int 1) (C := "ValueTrees$Whole") (T := T_Whole) (N := 5) hx hb ht in_Whole hown hK.1 (z_1 oa4) 0 rfl rfl 2 (by decide) (ht _ q225) (fun _ h9 => h9) rfl d_V_isBelow_19 ?_
        refine lv_if_eq (tgt := 29) hx hb d_V_isBelow_22 (by decide) (fun c8 => absurd c8 (by decide)) (fun _ => ?_)
        refine lv_iconst (v := 1) hx hb d_V_isBelow_25 (by decide) ?_
        refine lv_goto (tgt := 30) hx hb d_V_isBelow_26 (by decide) ?_
        exact z_zretR hx hb hr hlocks d_V_isBelow_30 rfl (by unfold a_below; rw [rb_some hr5, ec4]; exact congrArg Value.int (if_pos hz9).symm)
      · rw [if_neg hz9] at oa4
        refine lv_aload_n hx hb d_V_isBelow_18 rfl (lv_at hl 0 rfl) ?_
        refine va_get (D := D) (ci := 2) (v := .int 0) (C := "ValueTrees$Whole") (T := T_Whole) (N := 5) hx hb ht in_Whole hown hK.1 (z_1 oa4) 0 rfl rfl 2 (by decide) (ht _ q225) (fun _ h9 => h9) rfl d_V_isBelow_19 ?_
        refine lv_if_eq (tgt := 29) hx hb d_V_isBelow_22 (by decide) (fun _ => ?_) (fun c9 => absurd c9 (by decide))
        refine lv_iconst (v := 0) hx hb d_V_isBelow_29 (by decide) ?_
        exact z_zretR hx hb hr hlocks d_V_isBelow_30 rfl (by unfold a_below; rw [rb_some hr5, ec4]; exact congrArg Value.int (if_neg hz9).symm)
    | natCast k4 =>
      obtain ⟨x4, oa4, hna4, hx4⟩ := rv_row.mp hq4
      have hk4 : k4 % 16 ≤ 8 := hc4.2.2.1
      refine lv_astore_n (lv' := [(3, .ref a3), (0, .ref vv), (1, .int r)]) hx hb d_V_isBelow_5 rfl hl (by decide) rfl (fun ls hl => ?_)
      refine lv_aload_n hx hb d_V_isBelow_6 rfl (lv_at hl 0 rfl) ?_
      refine va_instNo (C := "ValueTrees$Row") hx hb hown (ht _ q205) (hK.2.1 _ nc_Row_Whole) (z_recv hK oa4 rfl) d_V_isBelow_7 ?_
      refine lv_if_eq (tgt := 29) hx hb d_V_isBelow_10 (by decide) (fun _ => ?_) (fun c10 => absurd c10 (by decide))
      refine lv_iconst (v := 0) hx hb d_V_isBelow_29 (by decide) ?_
      exact z_zretR hx hb hr hlocks d_V_isBelow_30 rfl (by unfold a_below; rw [rb_some hr5, ec4]; rfl)
    | intCast k4 =>
      obtain ⟨oa4, hna4⟩ := rv_nil.mp hq4
      refine lv_astore_n (lv' := [(3, .ref a3), (0, .ref vv), (1, .int r)]) hx hb d_V_isBelow_5 rfl hl (by decide) rfl (fun ls hl => ?_)
      refine lv_aload_n hx hb d_V_isBelow_6 rfl (lv_at hl 0 rfl) ?_
      refine va_instNo (C := "ValueTrees$Chain") hx hb hown (ht _ q205) (hK.2.1 _ nc_Chain_Whole) (z_recv hK oa4 rfl) d_V_isBelow_7 ?_
      refine lv_if_eq (tgt := 29) hx hb d_V_isBelow_10 (by decide) (fun _ => ?_) (fun c11 => absurd c11 (by decide))
      refine lv_iconst (v := 0) hx hb d_V_isBelow_29 (by decide) ?_
      exact z_zretR hx hb hr hlocks d_V_isBelow_30 rfl (by unfold a_below; rw [rb_some hr5, ec4]; rfl)
    | var i4 =>
      obtain ⟨oa4, hna4⟩ := rv_var.mp hq4
      refine lv_astore_n (lv' := [(3, .ref a3), (0, .ref vv), (1, .int r)]) hx hb d_V_isBelow_5 rfl hl (by decide) rfl (fun ls hl => ?_)
      refine lv_aload_n hx hb d_V_isBelow_6 rfl (lv_at hl 0 rfl) ?_
      refine va_instNo (C := "ValueTrees$Choice") hx hb hown (ht _ q205) (hK.2.1 _ nc_Choice_Whole) (z_recv hK oa4 rfl) d_V_isBelow_7 ?_
      refine lv_if_eq (tgt := 29) hx hb d_V_isBelow_10 (by decide) (fun _ => ?_) (fun c12 => absurd c12 (by decide))
      refine lv_iconst (v := 0) hx hb d_V_isBelow_29 (by decide) ?_
      exact z_zretR hx hb hr hlocks d_V_isBelow_30 rfl (by unfold a_below; rw [rb_some hr5, ec4]; rfl)
    | neg ch4 =>
      obtain ⟨e4, f4, oa4, hna4, oe4, hne4, hch4⟩ := rv_neg.mp hq4
      refine lv_astore_n (lv' := [(3, .ref a3), (0, .ref vv), (1, .int r)]) hx hb d_V_isBelow_5 rfl hl (by decide) rfl (fun ls hl => ?_)
      refine lv_aload_n hx hb d_V_isBelow_6 rfl (lv_at hl 0 rfl) ?_
      refine va_instNo (C := "ValueTrees$Tree") hx hb hown (ht _ q205) (hK.2.1 _ nc_Tree_Whole) (z_recv hK oa4 rfl) d_V_isBelow_7 ?_
      refine lv_if_eq (tgt := 29) hx hb d_V_isBelow_10 (by decide) (fun _ => ?_) (fun c13 => absurd c13 (by decide))
      refine lv_iconst (v := 0) hx hb d_V_isBelow_29 (by decide) ?_
      exact z_zretR hx hb hr hlocks d_V_isBelow_30 rfl (by unfold a_below; rw [rb_some hr5, ec4]; rfl)
    | add x4 y4 =>
      obtain ⟨b4, d4, oa4, hna4, hb4, hd4⟩ := rv_add.mp hq4
      refine lv_astore_n (lv' := [(3, .ref a3), (0, .ref vv), (1, .int r)]) hx hb d_V_isBelow_5 rfl hl (by decide) rfl (fun ls hl => ?_)
      refine lv_aload_n hx hb d_V_isBelow_6 rfl (lv_at hl 0 rfl) ?_
      refine va_instNo (C := "ValueTrees$Couple") hx hb hown (ht _ q205) (hK.2.1 _ nc_Couple_Whole) (z_recv hK oa4 rfl) d_V_isBelow_7 ?_
      refine lv_if_eq (tgt := 29) hx hb d_V_isBelow_10 (by decide) (fun _ => ?_) (fun c14 => absurd c14 (by decide))
      refine lv_iconst (v := 0) hx hb d_V_isBelow_29 (by decide) ?_
      exact z_zretR hx hb hr hlocks d_V_isBelow_30 rfl (by unfold a_below; rw [rb_some hr5, ec4]; rfl)
    | sub a4 x4 =>
      obtain ⟨b4, oa4, hna4, hb4⟩ := rv_sub.mp hq4
      refine lv_astore_n (lv' := [(3, .ref a3), (0, .ref vv), (1, .int r)]) hx hb d_V_isBelow_5 rfl hl (by decide) rfl (fun ls hl => ?_)
      refine lv_aload_n hx hb d_V_isBelow_6 rfl (lv_at hl 0 rfl) ?_
      refine va_instNo (C := "ValueTrees$Choice") hx hb hown (ht _ q205) (hK.2.1 _ nc_Choice_Whole) (z_recv hK oa4 rfl) d_V_isBelow_7 ?_
      refine lv_if_eq (tgt := 29) hx hb d_V_isBelow_10 (by decide) (fun _ => ?_) (fun c15 => absurd c15 (by decide))
      refine lv_iconst (v := 0) hx hb d_V_isBelow_29 (by decide) ?_
      exact z_zretR hx hb hr hlocks d_V_isBelow_30 rfl (by unfold a_below; rw [rb_some hr5, ec4]; rfl)
    | mul x4 y4 =>
      obtain ⟨b4, d4, oa4, hna4, hb4, hd4⟩ := rv_mul.mp hq4
      refine lv_astore_n (lv' := [(3, .ref a3), (0, .ref vv), (1, .int r)]) hx hb d_V_isBelow_5 rfl hl (by decide) rfl (fun ls hl => ?_)
      refine lv_aload_n hx hb d_V_isBelow_6 rfl (lv_at hl 0 rfl) ?_
      refine va_instNo (C := "ValueTrees$Chain") hx hb hown (ht _ q205) (hK.2.1 _ nc_Chain_Whole) (z_recv hK oa4 rfl) d_V_isBelow_7 ?_
      refine lv_if_eq (tgt := 29) hx hb d_V_isBelow_10 (by decide) (fun _ => ?_) (fun c16 => absurd c16 (by decide))
      refine lv_iconst (v := 0) hx hb d_V_isBelow_29 (by decide) ?_
      exact z_zretR hx hb hr hlocks d_V_isBelow_30 rfl (by unfold a_below; rw [rb_some hr5, ec4]; rfl)
    | pow c8 t8 => exact absurd hc4.1 (by decide)
abbrev b_Row_letter : ByteArray := prog_6_method_2_code
abbrev y_Row_letter : MethodName := ⟨"ValueTrees$Row", "letter", "(I)I"⟩
abbrev w_Row_letter : List Cond := .code y_Row_letter b_Row_letter 2 (Option.some .int) :: gt
theorem hd_Row_letter : (y_Row_letter).cls ≠ "java/lang/invoke/MethodHandle" ∧ (y_Row_letter).cls ≠ "java/lang/invoke/VarHandle" ∧ (parseMethodDescriptor (y_Row_letter).desc).map (fun d => d.parameters.length) = some 1 := by decide +kernel
theorem d_Row_letter_0 : decode b_Row_letter 0 = .ok (.aload_n 0, 1) := by decide +kernel
theorem d_Row_letter_1 : decode b_Row_letter 1 = .ok (.getfield 9, 3) := by decide +kernel
theorem d_Row_letter_4 : decode b_Row_letter 4 = .ok (.bipush 8, 2) := by decide +kernel
theorem d_Row_letter_6 : decode b_Row_letter 6 = .ok (.iload_n 1, 1) := by decide +kernel
theorem d_Row_letter_7 : decode b_Row_letter 7 = .ok (.imul, 1) := by decide +kernel
theorem d_Row_letter_8 : decode b_Row_letter 8 = .ok (.lushr, 1) := by decide +kernel
theorem d_Row_letter_9 : decode b_Row_letter 9 = .ok (.l2i, 1) := by decide +kernel
theorem d_Row_letter_10 : decode b_Row_letter 10 = .ok (.sipush 255, 3) := by decide +kernel
theorem d_Row_letter_13 : decode b_Row_letter 13 = .ok (.iand, 1) := by decide +kernel
theorem d_Row_letter_14 : decode b_Row_letter 14 = .ok (.ireturn, 1) := by decide +kernel
set_option maxHeartbeats 4000000 in
set_option maxRecDepth 100000 in
theorem c_Row_letter (l : Launch) (D : va_G) (dT : Nat → ClassId) (H : Heap) (a : Nat) (t n q : Int32) (x : Int64) (oa : va_at D cls (a, .inr (3, [.int t, .int n, .long x, .int q])) H) (i : Nat) (hi : i < 8) : Met l y_Row_letter w_Row_letter ({ frames := 0, cells := 0, slots := 0, locals := 0 }) (z_P D dT [.ref a, .int (nI i)] H) (z_R (fun v => v = .int (nI (x.toUInt64.toNat / 256 ^ i % 256)))) 0 0 (fun _ => False) := by
  refine Met.ofW (cc := b_Row_letter) (maxL := 2) (ret := (Option.some .int)) (by decide) rfl ?_
  intro p e s m args below meth c s₁ B hml hv
  obtain ⟨rfl, rfl, hK⟩ := hv
  have hx := B.exec
  have hb := B.bytes
  have hr := B.returns
  have hts := atoms_spec (ws := w_Row_letter) B.pre
  have ht : ∀ w9 ∈ gt, w9.before [.ref a, .int (nI i)].toArray s = true := fun w9 h => hts w9 (List.mem_cons_of_mem _ h)
  have hown : s.vm.findClass "ValueTrees$Row" = some m.cls := findClass_of_methodNamed B.named
  have hlocks := B.notSynchronized
  have hl := lv_entry ([.ref a, .int (nI i)]) (n := 2) (Nat.le_of_ble_eq_true rfl)
  rw [lg_entry_eq]
  generalize (lg_sl ([.ref a, .int (nI i)]) ++ List.replicate (2 - (lg_sl ([.ref a, .int (nI i)])).length) Slot.unset).toArray = ls at hl ⊢
  have hl : lv_has ls 2 [(0, .ref a), (1, .int (nI i))] := hl
  refine lv_aload_n hx hb d_Row_letter_0 rfl (lv_at hl 0 rfl) ?_
  refine va_get (D := D) (ci := 3) (v := .long x) (C := "ValueTrees$Row") (T := T_Row) (N := 4) hx hb ht in_Row hown hK.1 (z_1 oa) 0 rfl rfl 2 (by decide) (ht _ q289) (fun _ h9 => h9) rfl d_Row_letter_1 ?_
  refine lv_bipush (v := 8) hx hb d_Row_letter_4 (by decide) ?_
  refine lv_iload_n hx hb d_Row_letter_6 rfl (lv_at hl 1 rfl) ?_
  refine lv_imul hx hb d_Row_letter_7 ?_
  rw [show ((8 * (nI i)) : Int32) = nI (8 * i) from pk_mul 8 i]
  refine lv_lushr (v := (x.toUInt64 >>> ((nI (8 * i)).toInt64.toUInt64 &&& Int64.toUInt64 63)).toInt64) hx hb d_Row_letter_8 rfl ?_
  refine lv_l2i (v := ((x.toUInt64 >>> ((nI (8 * i)).toInt64.toUInt64 &&& Int64.toUInt64 63)).toInt64).toInt32) hx hb d_Row_letter_9 rfl ?_
  refine lv_sipush (v := 255) hx hb d_Row_letter_10 (by decide) ?_
  refine lv_iand hx hb d_Row_letter_13 ?_
  exact z_iretR hx hb hr hlocks d_Row_letter_14 (by rw [show (255 : Int32) = nI (2 ^ 8 - 1) from rfl, u64_low _ 8 (by decide), u64_shr x (by omega), Nat.pow_mul])
abbrev b_V_byteAt : ByteArray := prog_1_method_25_code
abbrev y_V_byteAt : MethodName := ⟨"ValueTrees", "byteAt", "(II)I"⟩
abbrev w_V_byteAt : List Cond := .code y_V_byteAt b_V_byteAt 5 (Option.some .int) :: gt
theorem hd_V_byteAt : (y_V_byteAt).cls ≠ "java/lang/invoke/MethodHandle" ∧ (y_V_byteAt).cls ≠ "java/lang/invoke/VarHandle" ∧ (parseMethodDescriptor (y_V_byteAt).desc).map (fun d => d.parameters.length) = some 2 := by decide +kernel
theorem d_V_byteAt_0 : decode b_V_byteAt 0 = .ok (.aload_n 0, 1) := by decide +kernel
theorem d_V_byteAt_1 : decode b_V_byteAt 1 = .ok (.iload_n 1, 1) := by decide +kernel
theorem d_V_byteAt_2 : decode b_V_byteAt 2 = .ok (.invokevirtual 77, 3) := by decide +kernel
theorem d_V_byteAt_5 : decode b_V_byteAt 5 = .ok (.astore 4, 2) := by decide +kernel
theorem d_V_byteAt_7 : decode b_V_byteAt 7 = .ok (.aload 4, 2) := by decide +kernel
theorem d_V_byteAt_9 : decode b_V_byteAt 9 = .ok (.instanceof 99, 3) := by decide +kernel
theorem d_V_byteAt_12 : decode b_V_byteAt 12 = .ok (.ifCond .eq 21, 3) := by decide +kernel
theorem d_V_byteAt_15 : decode b_V_byteAt 15 = .ok (.aload 4, 2) := by decide +kernel
theorem d_V_byteAt_17 : decode b_V_byteAt 17 = .ok (.checkcast 99, 3) := by decide +kernel
theorem d_V_byteAt_20 : decode b_V_byteAt 20 = .ok (.astore_n 3, 1) := by decide +kernel
theorem d_V_byteAt_21 : decode b_V_byteAt 21 = .ok (.iload_n 2, 1) := by decide +kernel
theorem d_V_byteAt_22 : decode b_V_byteAt 22 = .ok (.ifCond .lt 11, 3) := by decide +kernel
theorem d_V_byteAt_25 : decode b_V_byteAt 25 = .ok (.iload_n 2, 1) := by decide +kernel
theorem d_V_byteAt_26 : decode b_V_byteAt 26 = .ok (.aload_n 3, 1) := by decide +kernel
theorem d_V_byteAt_27 : decode b_V_byteAt 27 = .ok (.getfield 215, 3) := by decide +kernel
theorem d_V_byteAt_30 : decode b_V_byteAt 30 = .ok (.if_icmp .lt 5, 3) := by decide +kernel
theorem d_V_byteAt_33 : decode b_V_byteAt 33 = .ok (.iconst (-1), 1) := by decide +kernel
theorem d_V_byteAt_34 : decode b_V_byteAt 34 = .ok (.ireturn, 1) := by decide +kernel
theorem d_V_byteAt_35 : decode b_V_byteAt 35 = .ok (.aload_n 3, 1) := by decide +kernel
theorem d_V_byteAt_36 : decode b_V_byteAt 36 = .ok (.iload_n 2, 1) := by decide +kernel
theorem d_V_byteAt_37 : decode b_V_byteAt 37 = .ok (.invokevirtual 216, 3) := by decide +kernel
theorem d_V_byteAt_40 : decode b_V_byteAt 40 = .ok (.ireturn, 1) := by decide +kernel
set_option maxHeartbeats 4000000 in
set_option maxRecDepth 100000 in
theorem p_V_byteAt (l : Launch) (D : va_G) (dT : Nat → ClassId) (H : Heap) (Bq : Nat → Prop) (vv rg li ed : Nat) (tb : Nat → TR) (tc : Nat) (RV : Nat → Option VT) (hC : cI D dT Bq vv rg li ed tb tc RV H) (hV : vOK tb tc RV) (r i : Int32) : Met l y_V_byteAt w_V_byteAt ({ frames := 2, cells := 0, slots := 0, locals := 41 }) (z_P D dT [.ref vv, .int r, .int i] H) (z_R (fun v => v = .int (a_byteAt RV r i))) 0 0 (fun _ => False) := by
  obtain ⟨⟨hBs, hBr, hBl, hBe, hBv, hrl, hre, hle⟩, hvv, hCR, hCT⟩ := id hC
  have hO := hV.1
  have htc := hO.1
  have htc10 := hO.2.1
  refine Met.ofW (cc := b_V_byteAt) (maxL := 5) (ret := (Option.some .int)) (by decide) rfl ?_
  intro p e s m args below meth c s₁ B hml hv
  obtain ⟨rfl, rfl, hK⟩ := hv
  have hx := B.exec
  have hb := B.bytes
  have hr := B.returns
  have hts := atoms_spec (ws := w_V_byteAt) B.pre
  have ht : ∀ w9 ∈ gt, w9.before [.ref vv, .int r, .int i].toArray s = true := fun w9 h => hts w9 (List.mem_cons_of_mem _ h)
  have hown : s.vm.findClass "ValueTrees" = some m.cls := findClass_of_methodNamed B.named
  have hlocks := B.notSynchronized
  have hl := lv_entry ([.ref vv, .int r, .int i]) (n := 5) (Nat.le_of_ble_eq_true rfl)
  rw [lg_entry_eq]
  generalize (lg_sl ([.ref vv, .int r, .int i]) ++ List.replicate (5 - (lg_sl ([.ref vv, .int r, .int i])).length) Slot.unset).toArray = ls at hl ⊢
  have hl : lv_has ls 5 [(0, .ref vv), (1, .int r), (2, .int i)] := hl
  refine lv_aload_n hx hb d_V_byteAt_0 rfl (lv_at hl 0 rfl) ?_
  refine lv_iload_n hx hb d_V_byteAt_1 rfl (lv_at hl 1 rfl) ?_
  refine z_callR (va_runV (C := "ValueTrees") (As := [.int r]) (rest := []) ⟨hx, hb, hml, hown, hts⟩ (c_V_held l D dT _ Bq vv rg li ed tb tc RV hC hV r) ⟨callB_of 1 hts (gI gd_up gd_c q275) rfl rfl rfl (ht _ q1) (ht _ q272) hd_V_held ⟨Nat.le_of_ble_eq_true rfl, Nat.le_of_ble_eq_true rfl⟩, ht _ q274, ht _ qs7⟩ (z_preV hK (va_recv hK.1 (z_1 hvv) (ci := 0) (q0 := 0) rfl rfl)) rfl rfl hl.1 rfl (lv_room (Nat.le_of_ble_eq_true rfl)) d_V_byteAt_2 ⟨Nat.zero_le _, Nat.zero_le _⟩) (fun v2 hv1 => ?_)
  rcases hv1 with ⟨rfl, hr5⟩ | ⟨a3, v4, rfl, hr5, hq4⟩
  · refine lv_astoreN (lv' := [(4, .null), (0, .ref vv), (1, .int r), (2, .int i)]) hx hb d_V_byteAt_5 hl (by decide) rfl (fun ls hl => ?_)
    refine lv_aloadN hx hb d_V_byteAt_7 (lv_at hl 0 rfl) ?_
    refine lv_instN hx hb d_V_byteAt_9 ?_
    refine lv_if_eq (tgt := 33) hx hb d_V_byteAt_12 (by decide) (fun _ => ?_) (fun c6 => absurd c6 (by decide))
    refine lv_iconst (v := (-1)) hx hb d_V_byteAt_33 (by decide) ?_
    exact z_iretR hx hb hr hlocks d_V_byteAt_34 (by unfold a_byteAt; rw [rb_none hr5])
  · obtain ⟨ht4, hw4, hl4⟩ := vOK_get hV hr5
    obtain ⟨hh4, hnb4⟩ := rv_hd hw4 hq4
    obtain ⟨c4, ec4, hc4⟩ := wty_pow hw4
    rw [ec4] at hq4
    cases c4 with
    | num z4 =>
      obtain ⟨d4, oa4, hna4, od4, hnd4⟩ := rv_num.mp hq4
      have hnb4 : nb z4.natAbs ≤ 1024 := nb_lt.mpr hc4.2.2.1
      refine lv_astore (lv' := [(4, .ref a3), (0, .ref vv), (1, .int r), (2, .int i)]) hx hb d_V_byteAt_5 hl (by decide) rfl (fun ls hl => ?_)
      refine lv_aload hx hb d_V_byteAt_7 (lv_at hl 0 rfl) ?_
      refine va_instNo (C := "ValueTrees$Whole") hx hb hown (ht _ q283) (hK.2.1 _ nc_Whole_Row) (z_recv hK oa4 rfl) d_V_byteAt_9 ?_
      refine lv_if_eq (tgt := 33) hx hb d_V_byteAt_12 (by decide) (fun _ => ?_) (fun c7 => absurd c7 (by decide))
      refine lv_iconst (v := (-1)) hx hb d_V_byteAt_33 (by decide) ?_
      exact z_iretR hx hb hr hlocks d_V_byteAt_34 (by unfold a_byteAt; rw [rb_some hr5, ec4]; rfl)
    | natCast k4 =>
      obtain ⟨x4, oa4, hna4, hx4⟩ := rv_row.mp hq4
      have hk4 : k4 % 16 ≤ 8 := hc4.2.2.1
      refine lv_astore (lv' := [(4, .ref a3), (0, .ref vv), (1, .int r), (2, .int i)]) hx hb d_V_byteAt_5 hl (by decide) rfl (fun ls hl => ?_)
      refine lv_aload hx hb d_V_byteAt_7 (lv_at hl 0 rfl) ?_
      refine va_instE hx hb hown (ht _ q283) (z_recv hK oa4 rfl) d_V_byteAt_9 ?_
      refine lv_if_eq (tgt := 33) hx hb d_V_byteAt_12 (by decide) (fun c8 => absurd c8 (by decide)) (fun _ => ?_)
      refine lv_aload hx hb d_V_byteAt_15 (lv_at hl 0 rfl) ?_
      refine va_castE hx hb hown (ht _ q283) (z_recv hK oa4 rfl) d_V_byteAt_17 ?_
      refine lv_astore_n (lv' := [(3, .ref a3), (4, .ref a3), (0, .ref vv), (1, .int r), (2, .int i)]) hx hb d_V_byteAt_20 rfl hl (by decide) rfl (fun ls hl => ?_)
      refine lv_iload_n hx hb d_V_byteAt_21 rfl (lv_at hl 4 rfl) ?_
      refine lv_if_lt (tgt := 33) hx hb d_V_byteAt_22 (by decide) (fun c9 => ?_) (fun c9 => ?_)
      · refine lv_iconst (v := (-1)) hx hb d_V_byteAt_33 (by decide) ?_
        exact z_iretR hx hb hr hlocks d_V_byteAt_34 (by unfold a_byteAt; rw [rb_some hr5, ec4]; exact congrArg Value.int (if_neg (fun h9 => absurd c9 (Int32.not_lt.mpr h9.1))).symm)
      · obtain ⟨ii, hii, rfl⟩ := nI_of (x := i) c9
        refine lv_iload_n hx hb d_V_byteAt_25 rfl (lv_at hl 4 rfl) ?_
        refine lv_aload_n hx hb d_V_byteAt_26 rfl (lv_at hl 0 rfl) ?_
        refine va_get (D := D) (ci := 3) (v := .int (nI (k4 % 16))) (C := "ValueTrees$Row") (T := T_Row) (N := 4) hx hb ht in_Row hown hK.1 (z_1 oa4) 0 rfl rfl 3 (by decide) (ht _ q291) (fun _ h9 => h9) rfl d_V_byteAt_27 ?_
        refine lv_icmp_lt (tgt := 35) hx hb d_V_byteAt_30 (by decide) (fun c10 => ?_) (fun c10 => ?_)
        · have nc10 : ii < (k4 % 16) := (nI_ltI (a := ii) (b := (k4 % 16)) (by omega) (by omega)).mp c10
          refine lv_aload_n hx hb d_V_byteAt_35 rfl (lv_at hl 0 rfl) ?_
          refine lv_iload_n hx hb d_V_byteAt_36 rfl (lv_at hl 4 rfl) ?_
          refine z_callR (va_runV (C := "ValueTrees$Row") (As := [.int (nI ii)]) (rest := []) ⟨hx, hb, hml, hown, hts⟩ (c_Row_letter l D dT _ a3 (nI (vty v4)) (wlen (.natCast k4) (vty v4)) (nI (k4 % 16)) x4 oa4 ii (by omega)) ⟨callB_of 1 hts (gI gd_up gd_c q463) rfl rfl rfl (ht _ q15) (ht _ q460) hd_Row_letter ⟨Nat.le_of_ble_eq_true rfl, Nat.le_of_ble_eq_true rfl⟩, ht _ q461, ht _ q462⟩ (z_preV hK (va_recv hK.1 (z_1 oa4) (ci := 3) (q0 := 0) rfl rfl)) rfl rfl hl.1 rfl (lv_room (Nat.le_of_ble_eq_true rfl)) d_V_byteAt_37 ⟨Nat.zero_le _, Nat.zero_le _⟩) (fun v12 hv11 => ?_)
          subst hv11
          exact z_iretR hx hb hr hlocks d_V_byteAt_40 (by unfold a_byteAt; rw [rb_some hr5, ec4]; show _ = Value.int (if 0 ≤ nI ii ∧ nI ii < nI (k4 % 16) then nI ((rser k4).getD (nI ii).toNatClampNeg 0) else -1); rw [if_pos ⟨nI_pos' (by omega), c10⟩, nI_clamp (by omega), row_bt hx4 hk4 nc10])
        · have nc10 : ¬ ii < (k4 % 16) := fun h9 => c10 ((nI_ltI (a := ii) (b := (k4 % 16)) (by omega) (by omega)).mpr h9)
          refine lv_iconst (v := (-1)) hx hb d_V_byteAt_33 (by decide) ?_
          exact z_iretR hx hb hr hlocks d_V_byteAt_34 (by unfold a_byteAt; rw [rb_some hr5, ec4]; exact congrArg Value.int (if_neg (fun h9 => c10 h9.2)).symm)
    | intCast k4 =>
      obtain ⟨oa4, hna4⟩ := rv_nil.mp hq4
      refine lv_astore (lv' := [(4, .ref a3), (0, .ref vv), (1, .int r), (2, .int i)]) hx hb d_V_byteAt_5 hl (by decide) rfl (fun ls hl => ?_)
      refine lv_aload hx hb d_V_byteAt_7 (lv_at hl 0 rfl) ?_
      refine va_instNo (C := "ValueTrees$Chain") hx hb hown (ht _ q283) (hK.2.1 _ nc_Chain_Row) (z_recv hK oa4 rfl) d_V_byteAt_9 ?_
      refine lv_if_eq (tgt := 33) hx hb d_V_byteAt_12 (by decide) (fun _ => ?_) (fun c13 => absurd c13 (by decide))
      refine lv_iconst (v := (-1)) hx hb d_V_byteAt_33 (by decide) ?_
      exact z_iretR hx hb hr hlocks d_V_byteAt_34 (by unfold a_byteAt; rw [rb_some hr5, ec4]; rfl)
    | var i4 =>
      obtain ⟨oa4, hna4⟩ := rv_var.mp hq4
      refine lv_astore (lv' := [(4, .ref a3), (0, .ref vv), (1, .int r), (2, .int i)]) hx hb d_V_byteAt_5 hl (by decide) rfl (fun ls hl => ?_)
      refine lv_aload hx hb d_V_byteAt_7 (lv_at hl 0 rfl) ?_
      refine va_instNo (C := "ValueTrees$Choice") hx hb hown (ht _ q283) (hK.2.1 _ nc_Choice_Row) (z_recv hK oa4 rfl) d_V_byteAt_9 ?_
      refine lv_if_eq (tgt := 33) hx hb d_V_byteAt_12 (by decide) (fun _ => ?_) (fun c14 => absurd c14 (by decide))
      refine lv_iconst (v := (-1)) hx hb d_V_byteAt_33 (by decide) ?_
      exact z_iretR hx hb hr hlocks d_V_byteAt_34 (by unfold a_byteAt; rw [rb_some hr5, ec4]; rfl)
    | neg ch4 =>
      obtain ⟨e4, f4, oa4, hna4, oe4, hne4, hch4⟩ := rv_neg.mp hq4
      refine lv_astore (lv' := [(4, .ref a3), (0, .ref vv), (1, .int r), (2, .int i)]) hx hb d_V_byteAt_5 hl (by decide) rfl (fun ls hl => ?_)
      refine lv_aload hx hb d_V_byteAt_7 (lv_at hl 0 rfl) ?_
      refine va_instNo (C := "ValueTrees$Tree") hx hb hown (ht _ q283) (hK.2.1 _ nc_Tree_Row) (z_recv hK oa4 rfl) d_V_byteAt_9 ?_
      refine lv_if_eq (tgt := 33) hx hb d_V_byteAt_12 (by decide) (fun _ => ?_) (fun c15 => absurd c15 (by decide))
      refine lv_iconst (v := (-1)) hx hb d_V_byteAt_33 (by decide) ?_
      exact z_iretR hx hb hr hlocks d_V_byteAt_34 (by unfold a_byteAt; rw [rb_some hr5, ec4]; rfl)
    | add x4 y4 =>
      obtain ⟨b4, d4, oa4, hna4, hb4, hd4⟩ := rv_add.mp hq4
      refine lv_astore (lv' := [(4, .ref a3), (0, .ref vv), (1, .int r), (2, .int i)]) hx hb d_V_byteAt_5 hl (by decide) rfl (fun ls hl => ?_)
      refine lv_aload hx hb d_V_byteAt_7 (lv_at hl 0 rfl) ?_
      refine va_instNo (C := "ValueTrees$Couple") hx hb hown (ht _ q283) (hK.2.1 _ nc_Couple_Row) (z_recv hK oa4 rfl) d_V_byteAt_9 ?_
      refine lv_if_eq (tgt := 33) hx hb d_V_byteAt_12 (by decide) (fun _ => ?_) (fun c16 => absurd c16 (by decide))
      refine lv_iconst (v := (-1)) hx hb d_V_byteAt_33 (by decide) ?_
      exact z_iretR hx hb hr hlocks d_V_byteAt_34 (by unfold a_byteAt; rw [rb_some hr5, ec4]; rfl)
    | sub a4 x4 =>
      obtain ⟨b4, oa4, hna4, hb4⟩ := rv_sub.mp hq4
      refine lv_astore (lv' := [(4, .ref a3), (0, .ref vv), (1, .int r), (2, .int i)]) hx hb d_V_byteAt_5 hl (by decide) rfl (fun ls hl => ?_)
      refine lv_aload hx hb d_V_byteAt_7 (lv_at hl 0 rfl) ?_
      refine va_instNo (C := "ValueTrees$Choice") hx hb hown (ht _ q283) (hK.2.1 _ nc_Choice_Row) (z_recv hK oa4 rfl) d_V_byteAt_9 ?_
      refine lv_if_eq (tgt := 33) hx hb d_V_byteAt_12 (by decide) (fun _ => ?_) (fun c17 => absurd c17 (by decide))
      refine lv_iconst (v := (-1)) hx hb d_V_byteAt_33 (by decide) ?_
      exact z_iretR hx hb hr hlocks d_V_byteAt_34 (by unfold a_byteAt; rw [rb_some hr5, ec4]; rfl)
    | mul x4 y4 =>
      obtain ⟨b4, d4, oa4, hna4, hb4, hd4⟩ := rv_mul.mp hq4
      refine lv_astore (lv' := [(4, .ref a3), (0, .ref vv), (1, .int r), (2, .int i)]) hx hb d_V_byteAt_5 hl (by decide) rfl (fun ls hl => ?_)
      refine lv_aload hx hb d_V_byteAt_7 (lv_at hl 0 rfl) ?_
      refine va_instNo (C := "ValueTrees$Chain") hx hb hown (ht _ q283) (hK.2.1 _ nc_Chain_Row) (z_recv hK oa4 rfl) d_V_byteAt_9 ?_
      refine lv_if_eq (tgt := 33) hx hb d_V_byteAt_12 (by decide) (fun _ => ?_) (fun c18 => absurd c18 (by decide))
      refine lv_iconst (v := (-1)) hx hb d_V_byteAt_33 (by decide) ?_
      exact z_iretR hx hb hr hlocks d_V_byteAt_34 (by unfold a_byteAt; rw [rb_some hr5, ec4]; rfl)
    | pow c8 t8 => exact absurd hc4.1 (by decide)
abbrev b_V_ofType : ByteArray := prog_1_method_3_code
abbrev y_V_ofType : MethodName := ⟨"ValueTrees", "ofType", "(II)I"⟩
abbrev w_V_ofType : List Cond := .code y_V_ofType b_V_ofType 4 (Option.some .int) :: gt
theorem hd_V_ofType : (y_V_ofType).cls ≠ "java/lang/invoke/MethodHandle" ∧ (y_V_ofType).cls ≠ "java/lang/invoke/VarHandle" ∧ (parseMethodDescriptor (y_V_ofType).desc).map (fun d => d.parameters.length) = some 2 := by decide +kernel
theorem d_V_ofType_0 : decode b_V_ofType 0 = .ok (.aload_n 0, 1) := by decide +kernel
theorem d_V_ofType_1 : decode b_V_ofType 1 = .ok (.iload_n 1, 1) := by decide +kernel
theorem d_V_ofType_2 : decode b_V_ofType 2 = .ok (.invokevirtual 43, 3) := by decide +kernel
theorem d_V_ofType_5 : decode b_V_ofType 5 = .ok (.astore_n 3, 1) := by decide +kernel
theorem d_V_ofType_6 : decode b_V_ofType 6 = .ok (.aload_n 3, 1) := by decide +kernel
theorem d_V_ofType_7 : decode b_V_ofType 7 = .ok (.ifnonnull 5, 3) := by decide +kernel
theorem d_V_ofType_10 : decode b_V_ofType 10 = .ok (.iconst (-1), 1) := by decide +kernel
theorem d_V_ofType_11 : decode b_V_ofType 11 = .ok (.ireturn, 1) := by decide +kernel
theorem d_V_ofType_12 : decode b_V_ofType 12 = .ok (.iload_n 2, 1) := by decide +kernel
theorem d_V_ofType_13 : decode b_V_ofType 13 = .ok (.tableswitch 51 0 3 #[31, 36, 41, 46], 31) := by decide +kernel
theorem d_V_ofType_44 : decode b_V_ofType 44 = .ok (.aload_n 3, 1) := by decide +kernel
theorem d_V_ofType_45 : decode b_V_ofType 45 = .ok (.getfield 47, 3) := by decide +kernel
theorem d_V_ofType_48 : decode b_V_ofType 48 = .ok (.ireturn, 1) := by decide +kernel
theorem d_V_ofType_49 : decode b_V_ofType 49 = .ok (.aload_n 3, 1) := by decide +kernel
theorem d_V_ofType_50 : decode b_V_ofType 50 = .ok (.getfield 51, 3) := by decide +kernel
theorem d_V_ofType_53 : decode b_V_ofType 53 = .ok (.ireturn, 1) := by decide +kernel
theorem d_V_ofType_54 : decode b_V_ofType 54 = .ok (.aload_n 3, 1) := by decide +kernel
theorem d_V_ofType_55 : decode b_V_ofType 55 = .ok (.getfield 54, 3) := by decide +kernel
theorem d_V_ofType_58 : decode b_V_ofType 58 = .ok (.ireturn, 1) := by decide +kernel
theorem d_V_ofType_59 : decode b_V_ofType 59 = .ok (.aload_n 3, 1) := by decide +kernel
theorem d_V_ofType_60 : decode b_V_ofType 60 = .ok (.getfield 57, 3) := by decide +kernel
theorem d_V_ofType_63 : decode b_V_ofType 63 = .ok (.ireturn, 1) := by decide +kernel
theorem d_V_ofType_64 : decode b_V_ofType 64 = .ok (.iconst (-1), 1) := by decide +kernel
theorem d_V_ofType_65 : decode b_V_ofType 65 = .ok (.ireturn, 1) := by decide +kernel
set_option maxHeartbeats 4000000 in
set_option maxRecDepth 100000 in
theorem p_V_ofType (l : Launch) (D : va_G) (dT : Nat → ClassId) (H : Heap) (Bq : Nat → Prop) (vv rg li ed : Nat) (tb : Nat → TR) (tc : Nat) (RV : Nat → Option VT) (hC : cI D dT Bq vv rg li ed tb tc RV H) (hV : vOK tb tc RV) (t wh9 : Int32) : Met l y_V_ofType w_V_ofType ({ frames := 4, cells := 0, slots := 0, locals := 85 }) (z_P D dT [.ref vv, .int t, .int wh9] H) (z_R (fun v => v = .int (a_ofType tb tc t wh9))) 0 0 (fun _ => False) := by
  obtain ⟨⟨hBs, hBr, hBl, hBe, hBv, hrl, hre, hle⟩, hvv, hCR, hCT⟩ := id hC
  have hO := hV.1
  have htc := hO.1
  have htc10 := hO.2.1
  refine Met.ofW (cc := b_V_ofType) (maxL := 4) (ret := (Option.some .int)) (by decide) rfl ?_
  intro p e s m args below meth c s₁ B hml hv
  obtain ⟨rfl, rfl, hK⟩ := hv
  have hx := B.exec
  have hb := B.bytes
  have hr := B.returns
  have hts := atoms_spec (ws := w_V_ofType) B.pre
  have ht : ∀ w9 ∈ gt, w9.before [.ref vv, .int t, .int wh9].toArray s = true := fun w9 h => hts w9 (List.mem_cons_of_mem _ h)
  have hown : s.vm.findClass "ValueTrees" = some m.cls := findClass_of_methodNamed B.named
  have hlocks := B.notSynchronized
  have hl := lv_entry ([.ref vv, .int t, .int wh9]) (n := 4) (Nat.le_of_ble_eq_true rfl)
  rw [lg_entry_eq]
  generalize (lg_sl ([.ref vv, .int t, .int wh9]) ++ List.replicate (4 - (lg_sl ([.ref vv, .int t, .int wh9])).length) Slot.unset).toArray = ls at hl ⊢
  have hl : lv_has ls 4 [(0, .ref vv), (1, .int t), (2, .int wh9)] := hl
  refine lv_aload_n hx hb d_V_ofType_0 rfl (lv_at hl 0 rfl) ?_
  refine lv_iload_n hx hb d_V_ofType_1 rfl (lv_at hl 1 rfl) ?_
  refine z_callR (va_runV (C := "ValueTrees") (As := [.int t]) (rest := []) ⟨hx, hb, hml, hown, hts⟩ (c_V_typeNumbered l D dT _ Bq vv rg li ed tb tc RV hC hV t) ⟨callB_of 1 hts (gI gd_up gd_c q163) rfl rfl rfl (ht _ q1) (ht _ q160) hd_V_typeNumbered ⟨Nat.le_of_ble_eq_true rfl, Nat.le_of_ble_eq_true rfl⟩, ht _ q162, ht _ qs4⟩ (z_preV hK (va_recv hK.1 (z_1 hvv) (ci := 0) (q0 := 0) rfl rfl)) rfl rfl hl.1 rfl (lv_room (Nat.le_of_ble_eq_true rfl)) d_V_ofType_2 ⟨Nat.zero_le _, Nat.zero_le _⟩) (fun v2 hv1 => ?_)
  rcases hv1 with ⟨rfl, hq6⟩ | ⟨a3, k4, rfl, hq6, hk4, hnba3, oa3⟩
  · refine lv_astore_nN (lv' := [(3, .null), (0, .ref vv), (1, .int t), (2, .int wh9)]) hx hb d_V_ofType_5 rfl hl (by decide) rfl (fun ls hl => ?_)
    refine lv_aload_nN hx hb d_V_ofType_6 rfl (lv_at hl 0 rfl) ?_
    refine lv_ifnonnullN hx hb d_V_ofType_7 ?_
    refine lv_iconst (v := (-1)) hx hb d_V_ofType_10 (by decide) ?_
    exact z_iretR hx hb hr hlocks d_V_ofType_11 (by unfold a_ofType; rw [hq6])
  · refine lv_astore_n (lv' := [(3, .ref a3), (0, .ref vv), (1, .int t), (2, .int wh9)]) hx hb d_V_ofType_5 rfl hl (by decide) rfl (fun ls hl => ?_)
    refine lv_aload_n hx hb d_V_ofType_6 rfl (lv_at hl 0 rfl) ?_
    refine lv_ifnonnull (tgt := 12) hx hb d_V_ofType_7 (by decide) ?_
    refine lv_iload_n hx hb d_V_ofType_12 rfl (lv_at hl 3 rfl) ?_
    by_cases c7 : wh9 = 0
    · refine lv_tableIn (tgt := 44) hx hb d_V_ofType_13 (by rw [c7]; decide) (by rw [c7]; decide) (by rw [c7]; rfl) (by decide) ?_
      refine lv_aload_n hx hb d_V_ofType_44 rfl (lv_at hl 0 rfl) ?_
      refine va_get (D := D) (ci := 1) (v := .int (nI (tW (tb k4)))) (C := "ValueTrees$Type") (T := T_Type) (N := 5) hx hb ht in_Type hown hK.1 (z_1 oa3) 0 rfl rfl 0 (by decide) (ht _ q65) (fun _ h9 => h9) rfl d_V_ofType_45 ?_
      exact z_iretR hx hb hr hlocks d_V_ofType_48 (by unfold a_ofType; rw [hq6]; dsimp only; repeat (first | rfl | rw [if_pos (by assumption)] | rw [if_neg (by assumption)]))
    by_cases c8 : wh9 = 1
    · refine lv_tableIn (tgt := 49) hx hb d_V_ofType_13 (by rw [c8]; decide) (by rw [c8]; decide) (by rw [c8]; rfl) (by decide) ?_
      refine lv_aload_n hx hb d_V_ofType_49 rfl (lv_at hl 0 rfl) ?_
      refine va_get (D := D) (ci := 1) (v := .int (oI (tL (tb k4)))) (C := "ValueTrees$Type") (T := T_Type) (N := 5) hx hb ht in_Type hown hK.1 (z_1 oa3) 0 rfl rfl 1 (by decide) (ht _ q67) (fun _ h9 => h9) rfl d_V_ofType_50 ?_
      exact z_iretR hx hb hr hlocks d_V_ofType_53 (by unfold a_ofType; rw [hq6]; dsimp only; repeat (first | rfl | rw [if_pos (by assumption)] | rw [if_neg (by assumption)]))
    by_cases c9 : wh9 = 2
    · refine lv_tableIn (tgt := 54) hx hb d_V_ofType_13 (by rw [c9]; decide) (by rw [c9]; decide) (by rw [c9]; rfl) (by decide) ?_
      refine lv_aload_n hx hb d_V_ofType_54 rfl (lv_at hl 0 rfl) ?_
      refine va_get (D := D) (ci := 1) (v := .int (oI (tR (tb k4)))) (C := "ValueTrees$Type") (T := T_Type) (N := 5) hx hb ht in_Type hown hK.1 (z_1 oa3) 0 rfl rfl 2 (by decide) (ht _ q69) (fun _ h9 => h9) rfl d_V_ofType_55 ?_
      exact z_iretR hx hb hr hlocks d_V_ofType_58 (by unfold a_ofType; rw [hq6]; dsimp only; repeat (first | rfl | rw [if_pos (by assumption)] | rw [if_neg (by assumption)]))
    by_cases c10 : wh9 = 3
    · refine lv_tableIn (tgt := 59) hx hb d_V_ofType_13 (by rw [c10]; decide) (by rw [c10]; decide) (by rw [c10]; rfl) (by decide) ?_
      refine lv_aload_n hx hb d_V_ofType_59 rfl (lv_at hl 0 rfl) ?_
      refine va_get (D := D) (ci := 1) (v := .int (nI (tK (tb k4)))) (C := "ValueTrees$Type") (T := T_Type) (N := 5) hx hb ht in_Type hown hK.1 (z_1 oa3) 0 rfl rfl 4 (by decide) (ht _ q73) (fun _ h9 => h9) rfl d_V_ofType_60 ?_
      exact z_iretR hx hb hr hlocks d_V_ofType_63 (by unfold a_ofType; rw [hq6]; dsimp only; repeat (first | rfl | rw [if_pos (by assumption)] | rw [if_neg (by assumption)]))
    refine lv_tableOut (tgt := 64) hx hb d_V_ofType_13 ?_ (by decide) ?_
    · have key : ∀ (z : Int32) (n : Int32), ¬ z = n → ¬ z.toInt = n.toInt := fun z n h q => h (Int32.toInt_inj.mp q)
      have gc7 := key _ _ c7; rw [show (0 : Int32).toInt = 0 from by decide] at gc7
      have gc8 := key _ _ c8; rw [show (1 : Int32).toInt = 1 from by decide] at gc8
      have gc9 := key _ _ c9; rw [show (2 : Int32).toInt = 2 from by decide] at gc9
      have gc10 := key _ _ c10; rw [show (3 : Int32).toInt = 3 from by decide] at gc10
      omega
    · refine lv_iconst (v := (-1)) hx hb d_V_ofType_64 (by decide) ?_
      exact z_iretR hx hb hr hlocks d_V_ofType_65 (by unfold a_ofType; rw [hq6]; dsimp only; repeat (first | rfl | rw [if_pos (by assumption)] | rw [if_neg (by assumption)]))
theorem va_upS {α : Type} {f : Nat → α} {k : Nat} {v : α} : va_up f k v k = v := if_pos rfl
theorem va_upN {α : Type} {f : Nat → α} {k j : Nat} {v : α} (h : j ≠ k) : va_up f k v j = f j := if_neg h
/-- the registers behind a write -/
theorem rg_upd {D : va_G} {dT : Nat → ClassId} {B : Nat → Prop} {H : Heap} {RV : Nat → Option VT} {fr : Nat → Option Nat} (h : ∀ j, j < 16 → (RV j = none → fr j = none) ∧ ∀ v, RV j = some v → ∃ a, fr j = some a ∧ rv D dT B H v a) {j : Nat} {o : Option VT} {q : Option Nat} (h1 : o = none → q = none) (h2 : ∀ v, o = some v → ∃ a, q = some a ∧ rv D dT B H v a) :
    ∀ i, i < 16 → (updR RV j o i = none → va_up fr j q i = none) ∧ ∀ v, updR RV j o i = some v → ∃ a, va_up fr j q i = some a ∧ rv D dT B H v a := by
  intro i hi
  by_cases e : i = j
  · subst e
    rw [show updR RV i o i = o from if_pos rfl, va_upS]
    exact ⟨h1, h2⟩
  · rw [show updR RV j o i = RV i from if_neg e, va_upN e]
    exact h i hi
abbrev b_V_clear : ByteArray := prog_1_method_18_code
abbrev y_V_clear : MethodName := ⟨"ValueTrees", "clear", "(I)Z"⟩
abbrev w_V_clear : List Cond := .code y_V_clear b_V_clear 2 (Option.some .boolean) :: gt
theorem hd_V_clear : (y_V_clear).cls ≠ "java/lang/invoke/MethodHandle" ∧ (y_V_clear).cls ≠ "java/lang/invoke/VarHandle" ∧ (parseMethodDescriptor (y_V_clear).desc).map (fun d => d.parameters.length) = some 1 := by decide +kernel
theorem d_V_clear_0 : decode b_V_clear 0 = .ok (.iload_n 1, 1) := by decide +kernel
theorem d_V_clear_1 : decode b_V_clear 1 = .ok (.invokestatic 130, 3) := by decide +kernel
theorem d_V_clear_4 : decode b_V_clear 4 = .ok (.ifCond .ne 5, 3) := by decide +kernel
theorem d_V_clear_7 : decode b_V_clear 7 = .ok (.iconst 0, 1) := by decide +kernel
theorem d_V_clear_8 : decode b_V_clear 8 = .ok (.ireturn, 1) := by decide +kernel
theorem d_V_clear_9 : decode b_V_clear 9 = .ok (.aload_n 0, 1) := by decide +kernel
theorem d_V_clear_10 : decode b_V_clear 10 = .ok (.getfield 31, 3) := by decide +kernel
theorem d_V_clear_13 : decode b_V_clear 13 = .ok (.iload_n 1, 1) := by decide +kernel
theorem d_V_clear_14 : decode b_V_clear 14 = .ok (.aconst_null, 1) := by decide +kernel
theorem d_V_clear_15 : decode b_V_clear 15 = .ok (.aastore, 1) := by decide +kernel
theorem d_V_clear_16 : decode b_V_clear 16 = .ok (.iconst 1, 1) := by decide +kernel
theorem d_V_clear_17 : decode b_V_clear 17 = .ok (.ireturn, 1) := by decide +kernel
set_option maxHeartbeats 4000000 in
set_option maxRecDepth 100000 in
theorem p_V_clear (l : Launch) (D : va_G) (dT : Nat → ClassId) (H : Heap) (Bq : Nat → Prop) (vv rg li ed : Nat) (tb : Nat → TR) (tc : Nat) (RV : Nat → Option VT) (hC : cI D dT Bq vv rg li ed tb tc RV H) (hV : vOK tb tc RV) (r : Int32) : Met l y_V_clear w_V_clear ({ frames := 1, cells := 0, slots := 0, locals := 20 }) (z_P D dT [.ref vv, .int r] H) (z_Q (fun q => q = rg) (fun v H1 => v = some (.int (a_clear r)) ∧ cI D dT Bq vv rg li ed tb tc (v_clear RV r) H1)) 0 0 (fun q => q = rg) := by
  obtain ⟨⟨hBs, hBr, hBl, hBe, hBv, hrl, hre, hle⟩, hvv, hCR, hCT⟩ := id hC
  have hO := hV.1
  have htc := hO.1
  have htc10 := hO.2.1
  obtain ⟨fr, hfr, hRVs⟩ := id hCR
  refine Met.ofW (cc := b_V_clear) (maxL := 2) (ret := (Option.some .boolean)) (by decide) rfl ?_
  intro p e s m args below meth c s₁ B hml hv
  obtain ⟨rfl, rfl, hK⟩ := hv
  have hx := B.exec
  have hb := B.bytes
  have hr := B.returns
  have hts := atoms_spec (ws := w_V_clear) B.pre
  have ht : ∀ w9 ∈ gt, w9.before [.ref vv, .int r].toArray s = true := fun w9 h => hts w9 (List.mem_cons_of_mem _ h)
  have hown : s.vm.findClass "ValueTrees" = some m.cls := findClass_of_methodNamed B.named
  have hlocks := B.notSynchronized
  have hS : va_S (fun q => q = rg) s.heap s.heap [] := va_S.rf
  have hl := lv_entry ([.ref vv, .int r]) (n := 2) (Nat.le_of_ble_eq_true rfl)
  rw [lg_entry_eq]
  generalize (lg_sl ([.ref vv, .int r]) ++ List.replicate (2 - (lg_sl ([.ref vv, .int r])).length) Slot.unset).toArray = ls at hl ⊢
  have hl : lv_has ls 2 [(0, .ref vv), (1, .int r)] := hl
  have hN : nU s.heap s.heap := nU.rf
  have hArg : (fun q => q = rg) rg := rfl
  refine lv_iload_n hx hb d_V_clear_0 rfl (lv_at hl 1 rfl) ?_
  refine z_callR (va_runS (As := [.int r]) (rest := []) ⟨hx, hb, hml, hown, hts⟩ (c_V_isRegister l D dT _ r) ⟨callB_of 1 hts (gI gd_up gd_c q267) rfl rfl rfl (ht _ q1) (ht _ q265) hd_V_isRegister ⟨Nat.le_of_ble_eq_true rfl, Nat.le_of_ble_eq_true rfl⟩, ht _ q266⟩ (z_preS hK) rfl rfl hl.1 rfl (lv_room (Nat.le_of_ble_eq_true rfl)) d_V_clear_1 ⟨Nat.zero_le _, Nat.zero_le _⟩) (fun v2 hv1 => ?_)
  have hv1 : v2 = .int (if inR r then 1 else 0) := hv1
  rcases Classical.em (inR r) with hq3 | hq3
  · rw [if_pos hq3] at hv1
    subst hv1
    refine lv_if_ne (tgt := 9) hx hb d_V_clear_4 (by decide) (fun _ => ?_) (fun c4 => absurd c4 (by decide))
    obtain ⟨j, hj, rfl⟩ := inR_of hq3
    refine lv_aload_n hx hb d_V_clear_9 rfl (lv_at hl 0 rfl) ?_
    refine va_get (D := D) (ci := 0) (v := .ref rg) (C := "ValueTrees") (T := T_V) (N := 2) hx hb ht in_V hown hK.1 (z_1 (hvv.grew hN.2)) 0 rfl rfl 1 (by decide) (ht _ q146) (fun _ h9 => h9) rfl d_V_clear_10 ?_
    refine lv_iload_n hx hb d_V_clear_13 rfl (lv_at hl 1 rfl) ?_
    refine lv_null hx hb d_V_clear_14 ?_
    refine z_aasN hx hb hK hS hArg (hfr.grew hN.2) rfl j rfl hj (by decide) d_V_clear_15 (fun H locs hfr hz5 ho6 hS => ?_)
    have hC := hC.put hz5 ho6 hfr (rg_upd (o := none) hRVs (fun _ => rfl) (fun _ h9 => by cases h9))
    refine lv_iconst (v := 1) hx hb d_V_clear_16 (by decide) ?_
    exact z_zretQ hx hb hr hlocks d_V_clear_17 rfl hS (Nat.le_of_ble_eq_true rfl) (Nat.le_of_ble_eq_true rfl) (by unfold a_clear v_clear; rw [if_pos (inR_nI hj), if_pos (inR_nI hj), nI_clamp (by omega)]; exact ⟨rfl, hC⟩)
  · rw [if_neg hq3] at hv1
    subst hv1
    refine lv_if_ne (tgt := 9) hx hb d_V_clear_4 (by decide) (fun c7 => absurd c7 (by decide)) (fun _ => ?_)
    refine lv_iconst (v := 0) hx hb d_V_clear_7 (by decide) ?_
    exact z_zretQ hx hb hr hlocks d_V_clear_8 rfl hS (Nat.le_of_ble_eq_true rfl) (Nat.le_of_ble_eq_true rfl) (by unfold a_clear v_clear; rw [if_neg hq3, if_neg hq3]; exact ⟨rfl, hC⟩)
abbrev b_V_move : ByteArray := prog_1_method_17_code
abbrev y_V_move : MethodName := ⟨"ValueTrees", "move", "(II)Z"⟩
abbrev w_V_move : List Cond := .code y_V_move b_V_move 3 (Option.some .boolean) :: gt
theorem hd_V_move : (y_V_move).cls ≠ "java/lang/invoke/MethodHandle" ∧ (y_V_move).cls ≠ "java/lang/invoke/VarHandle" ∧ (parseMethodDescriptor (y_V_move).desc).map (fun d => d.parameters.length) = some 2 := by decide +kernel
theorem d_V_move_0 : decode b_V_move 0 = .ok (.iload_n 1, 1) := by decide +kernel
theorem d_V_move_1 : decode b_V_move 1 = .ok (.invokestatic 130, 3) := by decide +kernel
theorem d_V_move_4 : decode b_V_move 4 = .ok (.ifCond .eq 10, 3) := by decide +kernel
theorem d_V_move_7 : decode b_V_move 7 = .ok (.iload_n 2, 1) := by decide +kernel
theorem d_V_move_8 : decode b_V_move 8 = .ok (.invokestatic 130, 3) := by decide +kernel
theorem d_V_move_11 : decode b_V_move 11 = .ok (.ifCond .ne 5, 3) := by decide +kernel
theorem d_V_move_14 : decode b_V_move 14 = .ok (.iconst 0, 1) := by decide +kernel
theorem d_V_move_15 : decode b_V_move 15 = .ok (.ireturn, 1) := by decide +kernel
theorem d_V_move_16 : decode b_V_move 16 = .ok (.aload_n 0, 1) := by decide +kernel
theorem d_V_move_17 : decode b_V_move 17 = .ok (.getfield 31, 3) := by decide +kernel
theorem d_V_move_20 : decode b_V_move 20 = .ok (.iload_n 1, 1) := by decide +kernel
theorem d_V_move_21 : decode b_V_move 21 = .ok (.aload_n 0, 1) := by decide +kernel
theorem d_V_move_22 : decode b_V_move 22 = .ok (.getfield 31, 3) := by decide +kernel
theorem d_V_move_25 : decode b_V_move 25 = .ok (.iload_n 2, 1) := by decide +kernel
theorem d_V_move_26 : decode b_V_move 26 = .ok (.aaload, 1) := by decide +kernel
theorem d_V_move_27 : decode b_V_move 27 = .ok (.aastore, 1) := by decide +kernel
theorem d_V_move_28 : decode b_V_move 28 = .ok (.iconst 1, 1) := by decide +kernel
theorem d_V_move_29 : decode b_V_move 29 = .ok (.ireturn, 1) := by decide +kernel
set_option maxHeartbeats 4000000 in
set_option maxRecDepth 100000 in
theorem p_V_move (l : Launch) (D : va_G) (dT : Nat → ClassId) (H : Heap) (Bq : Nat → Prop) (vv rg li ed : Nat) (tb : Nat → TR) (tc : Nat) (RV : Nat → Option VT) (hC : cI D dT Bq vv rg li ed tb tc RV H) (hV : vOK tb tc RV) (r f : Int32) : Met l y_V_move w_V_move ({ frames := 1, cells := 0, slots := 0, locals := 20 }) (z_P D dT [.ref vv, .int r, .int f] H) (z_Q (fun q => q = rg) (fun v H1 => v = some (.int (a_move r f)) ∧ cI D dT Bq vv rg li ed tb tc (v_move RV r f) H1)) 0 0 (fun q => q = rg) := by
  obtain ⟨⟨hBs, hBr, hBl, hBe, hBv, hrl, hre, hle⟩, hvv, hCR, hCT⟩ := id hC
  have hO := hV.1
  have htc := hO.1
  have htc10 := hO.2.1
  obtain ⟨fr, hfr, hRVs⟩ := id hCR
  refine Met.ofW (cc := b_V_move) (maxL := 3) (ret := (Option.some .boolean)) (by decide) rfl ?_
  intro p e s m args below meth c s₁ B hml hv
  obtain ⟨rfl, rfl, hK⟩ := hv
  have hx := B.exec
  have hb := B.bytes
  have hr := B.returns
  have hts := atoms_spec (ws := w_V_move) B.pre
  have ht : ∀ w9 ∈ gt, w9.before [.ref vv, .int r, .int f].toArray s = true := fun w9 h => hts w9 (List.mem_cons_of_mem _ h)
  have hown : s.vm.findClass "ValueTrees" = some m.cls := findClass_of_methodNamed B.named
  have hlocks := B.notSynchronized
  have hS : va_S (fun q => q = rg) s.heap s.heap [] := va_S.rf
  have hl := lv_entry ([.ref vv, .int r, .int f]) (n := 3) (Nat.le_of_ble_eq_true rfl)
  rw [lg_entry_eq]
  generalize (lg_sl ([.ref vv, .int r, .int f]) ++ List.replicate (3 - (lg_sl ([.ref vv, .int r, .int f])).length) Slot.unset).toArray = ls at hl ⊢
  have hl : lv_has ls 3 [(0, .ref vv), (1, .int r), (2, .int f)] := hl
  have hN : nU s.heap s.heap := nU.rf
  have hArg : (fun q => q = rg) rg := rfl
  refine lv_iload_n hx hb d_V_move_0 rfl (lv_at hl 1 rfl) ?_
  refine z_callR (va_runS (As := [.int r]) (rest := []) ⟨hx, hb, hml, hown, hts⟩ (c_V_isRegister l D dT _ r) ⟨callB_of 1 hts (gI gd_up gd_c q267) rfl rfl rfl (ht _ q1) (ht _ q265) hd_V_isRegister ⟨Nat.le_of_ble_eq_true rfl, Nat.le_of_ble_eq_true rfl⟩, ht _ q266⟩ (z_preS hK) rfl rfl hl.1 rfl (lv_room (Nat.le_of_ble_eq_true rfl)) d_V_move_1 ⟨Nat.zero_le _, Nat.zero_le _⟩) (fun v2 hv1 => ?_)
  have hv1 : v2 = .int (if inR r then 1 else 0) := hv1
  rcases Classical.em (inR r) with hq3 | hq3
  · rw [if_pos hq3] at hv1
    subst hv1
    refine lv_if_eq (tgt := 14) hx hb d_V_move_4 (by decide) (fun c4 => absurd c4 (by decide)) (fun _ => ?_)
    refine lv_iload_n hx hb d_V_move_7 rfl (lv_at hl 2 rfl) ?_
    refine z_callR (va_runS (As := [.int f]) (rest := []) ⟨hx, hb, hml, hown, hts⟩ (c_V_isRegister l D dT _ f) ⟨callB_of 1 hts (gI gd_up gd_c q267) rfl rfl rfl (ht _ q1) (ht _ q265) hd_V_isRegister ⟨Nat.le_of_ble_eq_true rfl, Nat.le_of_ble_eq_true rfl⟩, ht _ q266⟩ (z_preS hK) rfl rfl hl.1 rfl (lv_room (Nat.le_of_ble_eq_true rfl)) d_V_move_8 ⟨Nat.zero_le _, Nat.zero_le _⟩) (fun v6 hv5 => ?_)
    have hv5 : v6 = .int (if inR f then 1 else 0) := hv5
    rcases Classical.em (inR f) with hq7 | hq7
    · rw [if_pos hq7] at hv5
      subst hv5
      refine lv_if_ne (tgt := 16) hx hb d_V_move_11 (by decide) (fun _ => ?_) (fun c8 => absurd c8 (by decide))
      obtain ⟨j, hj, rfl⟩ := inR_of hq3
      obtain ⟨i, hi, rfl⟩ := inR_of hq7
      cases hVi : RV i with
      | none =>
        have hfi := (hRVs i hi).1 hVi
        refine lv_aload_n hx hb d_V_move_16 rfl (lv_at hl 0 rfl) ?_
        refine va_get (D := D) (ci := 0) (v := .ref rg) (C := "ValueTrees") (T := T_V) (N := 2) hx hb ht in_V hown hK.1 (z_1 (hvv.grew hN.2)) 0 rfl rfl 1 (by decide) (ht _ q146) (fun _ h9 => h9) rfl d_V_move_17 ?_
        refine lv_iload_n hx hb d_V_move_20 rfl (lv_at hl 1 rfl) ?_
        refine lv_aload_n hx hb d_V_move_21 rfl (lv_at hl 0 rfl) ?_
        refine va_get (D := D) (ci := 0) (v := .ref rg) (C := "ValueTrees") (T := T_V) (N := 2) hx hb ht in_V hown hK.1 (z_1 (hvv.grew hN.2)) 0 rfl rfl 1 (by decide) (ht _ q146) (fun _ h9 => h9) rfl d_V_move_22 ?_
        refine lv_iload_n hx hb d_V_move_25 rfl (lv_at hl 2 rfl) ?_
        refine z_aald (v := .null) hx hb hK (hfr.grew hN.2) rfl i rfl hi (by decide) (by rw [hfi]; rfl) d_V_move_26 ?_
        refine z_aasN hx hb hK hS hArg (hfr.grew hN.2) rfl j rfl hj (by decide) d_V_move_27 (fun H locs hfr hz9 ho10 hS => ?_)
        have hC := hC.put hz9 ho10 hfr (rg_upd (o := RV i) hRVs (fun _ => rfl) (fun v h9 => by rw [hVi] at h9; cases h9))
        refine lv_iconst (v := 1) hx hb d_V_move_28 (by decide) ?_
        exact z_zretQ hx hb hr hlocks d_V_move_29 rfl hS (Nat.le_of_ble_eq_true rfl) (Nat.le_of_ble_eq_true rfl) (by unfold a_move v_move; rw [if_pos ⟨inR_nI hj, inR_nI hi⟩, if_pos ⟨inR_nI hj, inR_nI hi⟩, nI_clamp (by omega), nI_clamp (by omega)]; exact ⟨rfl, hC⟩)
      | some w9 =>
        obtain ⟨a9, hfi, hav⟩ := (hRVs i hi).2 w9 hVi
        have hvh := (rv_hd (hV.2 i hi w9 hVi).2.1 hav).1
        refine lv_aload_n hx hb d_V_move_16 rfl (lv_at hl 0 rfl) ?_
        refine va_get (D := D) (ci := 0) (v := .ref rg) (C := "ValueTrees") (T := T_V) (N := 2) hx hb ht in_V hown hK.1 (z_1 (hvv.grew hN.2)) 0 rfl rfl 1 (by decide) (ht _ q146) (fun _ h9 => h9) rfl d_V_move_17 ?_
        refine lv_iload_n hx hb d_V_move_20 rfl (lv_at hl 1 rfl) ?_
        refine lv_aload_n hx hb d_V_move_21 rfl (lv_at hl 0 rfl) ?_
        refine va_get (D := D) (ci := 0) (v := .ref rg) (C := "ValueTrees") (T := T_V) (N := 2) hx hb ht in_V hown hK.1 (z_1 (hvv.grew hN.2)) 0 rfl rfl 1 (by decide) (ht _ q146) (fun _ h9 => h9) rfl d_V_move_22 ?_
        refine lv_iload_n hx hb d_V_move_25 rfl (lv_at hl 2 rfl) ?_
        refine z_aald (v := .ref a9) hx hb hK (hfr.grew hN.2) rfl i rfl hi (by decide) (by rw [hfi]; rfl) d_V_move_26 ?_
        refine z_aas hx hb hK hS hArg (hfr.grew hN.2) rfl (vh_any hK (hvh.grew hN.2)) j rfl hj (by decide) d_V_move_27 (fun H locs hfr hz11 ho12 hS => ?_)
        have hC := hC.put hz11 ho12 hfr (rg_upd (o := RV i) hRVs (fun h9 => by rw [hVi] at h9; cases h9) (fun v h9 => by rw [hVi] at h9; cases h9; exact ⟨a9, rfl, hav⟩))
        refine lv_iconst (v := 1) hx hb d_V_move_28 (by decide) ?_
        exact z_zretQ hx hb hr hlocks d_V_move_29 rfl hS (Nat.le_of_ble_eq_true rfl) (Nat.le_of_ble_eq_true rfl) (by unfold a_move v_move; rw [if_pos ⟨inR_nI hj, inR_nI hi⟩, if_pos ⟨inR_nI hj, inR_nI hi⟩, nI_clamp (by omega), nI_clamp (by omega)]; exact ⟨rfl, hC⟩)
    · rw [if_neg hq7] at hv5
      subst hv5
      refine lv_if_ne (tgt := 16) hx hb d_V_move_11 (by decide) (fun c13 => absurd c13 (by decide)) (fun _ => ?_)
      refine lv_iconst (v := 0) hx hb d_V_move_14 (by decide) ?_
      exact z_zretQ hx hb hr hlocks d_V_move_15 rfl hS (Nat.le_of_ble_eq_true rfl) (Nat.le_of_ble_eq_true rfl) (by unfold a_move v_move; rw [if_neg (fun h9 => hq7 h9.2), if_neg (fun h9 => hq7 h9.2)]; exact ⟨rfl, hC⟩)
  · rw [if_neg hq3] at hv1
    subst hv1
    refine lv_if_eq (tgt := 14) hx hb d_V_move_4 (by decide) (fun _ => ?_) (fun c14 => absurd c14 (by decide))
    refine lv_iconst (v := 0) hx hb d_V_move_14 (by decide) ?_
    exact z_zretQ hx hb hr hlocks d_V_move_15 rfl hS (Nat.le_of_ble_eq_true rfl) (Nat.le_of_ble_eq_true rfl) (by unfold a_move v_move; rw [if_neg (fun h9 => hq3 h9.1), if_neg (fun h9 => hq3 h9.1)]; exact ⟨rfl, hC⟩)
abbrev b_V_keep : ByteArray := prog_1_method_30_code
abbrev y_V_keep : MethodName := ⟨"ValueTrees", "keep", "(ILValueTrees$Value;)I"⟩
abbrev w_V_keep : List Cond := .code y_V_keep b_V_keep 3 (Option.some .int) :: gt
theorem hd_V_keep : (y_V_keep).cls ≠ "java/lang/invoke/MethodHandle" ∧ (y_V_keep).cls ≠ "java/lang/invoke/VarHandle" ∧ (parseMethodDescriptor (y_V_keep).desc).map (fun d => d.parameters.length) = some 2 := by decide +kernel
theorem d_V_keep_0 : decode b_V_keep 0 = .ok (.aload_n 2, 1) := by decide +kernel
theorem d_V_keep_1 : decode b_V_keep 1 = .ok (.ifnull 10, 3) := by decide +kernel
theorem d_V_keep_4 : decode b_V_keep 4 = .ok (.iload_n 1, 1) := by decide +kernel
theorem d_V_keep_5 : decode b_V_keep 5 = .ok (.invokestatic 130, 3) := by decide +kernel
theorem d_V_keep_8 : decode b_V_keep 8 = .ok (.ifCond .ne 5, 3) := by decide +kernel
theorem d_V_keep_11 : decode b_V_keep 11 = .ok (.iconst (-1), 1) := by decide +kernel
theorem d_V_keep_12 : decode b_V_keep 12 = .ok (.ireturn, 1) := by decide +kernel
theorem d_V_keep_13 : decode b_V_keep 13 = .ok (.aload_n 2, 1) := by decide +kernel
theorem d_V_keep_14 : decode b_V_keep 14 = .ok (.getfield 206, 3) := by decide +kernel
theorem d_V_keep_17 : decode b_V_keep 17 = .ok (.sipush 160, 3) := by decide +kernel
theorem d_V_keep_20 : decode b_V_keep 20 = .ok (.if_icmp .le 6, 3) := by decide +kernel
theorem d_V_keep_23 : decode b_V_keep 23 = .ok (.bipush (-2), 2) := by decide +kernel
theorem d_V_keep_25 : decode b_V_keep 25 = .ok (.ireturn, 1) := by decide +kernel
theorem d_V_keep_26 : decode b_V_keep 26 = .ok (.aload_n 0, 1) := by decide +kernel
theorem d_V_keep_27 : decode b_V_keep 27 = .ok (.getfield 31, 3) := by decide +kernel
theorem d_V_keep_30 : decode b_V_keep 30 = .ok (.iload_n 1, 1) := by decide +kernel
theorem d_V_keep_31 : decode b_V_keep 31 = .ok (.aload_n 2, 1) := by decide +kernel
theorem d_V_keep_32 : decode b_V_keep 32 = .ok (.aastore, 1) := by decide +kernel
theorem d_V_keep_33 : decode b_V_keep 33 = .ok (.aload_n 2, 1) := by decide +kernel
theorem d_V_keep_34 : decode b_V_keep 34 = .ok (.getfield 206, 3) := by decide +kernel
theorem d_V_keep_37 : decode b_V_keep 37 = .ok (.ireturn, 1) := by decide +kernel
set_option maxHeartbeats 4000000 in
set_option maxRecDepth 100000 in
theorem c_V_keep_n (l : Launch) (D : va_G) (dT : Nat → ClassId) (H : Heap) (Bq : Nat → Prop) (vv rg li ed : Nat) (tb : Nat → TR) (tc : Nat) (RV : Nat → Option VT) (hC : cI D dT Bq vv rg li ed tb tc RV H) (hV : vOK tb tc RV) (r : Int32) : Met l y_V_keep w_V_keep ({ frames := 1, cells := 0, slots := 0, locals := 20 }) (z_P D dT [.ref vv, .int r, .null] H) (z_Q (fun q => q = rg) (fun v H1 => v = some (.int (kp RV r none).1) ∧ cI D dT Bq vv rg li ed tb tc (kp RV r none).2 H1)) 0 0 (fun q => q = rg) := by
  obtain ⟨⟨hBs, hBr, hBl, hBe, hBv, hrl, hre, hle⟩, hvv, hCR, hCT⟩ := id hC
  have hO := hV.1
  have htc := hO.1
  have htc10 := hO.2.1
  obtain ⟨fr, hfr, hRVs⟩ := id hCR
  refine Met.ofW (cc := b_V_keep) (maxL := 3) (ret := (Option.some .int)) (by decide) rfl ?_
  intro p e s m args below meth c s₁ B hml hv
  obtain ⟨rfl, rfl, hK⟩ := hv
  have hx := B.exec
  have hb := B.bytes
  have hr := B.returns
  have hts := atoms_spec (ws := w_V_keep) B.pre
  have ht : ∀ w9 ∈ gt, w9.before [.ref vv, .int r, .null].toArray s = true := fun w9 h => hts w9 (List.mem_cons_of_mem _ h)
  have hown : s.vm.findClass "ValueTrees" = some m.cls := findClass_of_methodNamed B.named
  have hlocks := B.notSynchronized
  have hS : va_S (fun q => q = rg) s.heap s.heap [] := va_S.rf
  have hl := lv_entry ([.ref vv, .int r, .null]) (n := 3) (Nat.le_of_ble_eq_true rfl)
  rw [lg_entry_eq]
  generalize (lg_sl ([.ref vv, .int r, .null]) ++ List.replicate (3 - (lg_sl ([.ref vv, .int r, .null])).length) Slot.unset).toArray = ls at hl ⊢
  have hl : lv_has ls 3 [(0, .ref vv), (1, .int r), (2, .null)] := hl
  have hN : nU s.heap s.heap := nU.rf
  have hArg : (fun q => q = rg) rg := rfl
  refine lv_aload_nN hx hb d_V_keep_0 rfl (lv_at hl 2 rfl) ?_
  refine lv_ifnullN (tgt := 11) hx hb d_V_keep_1 (by decide) ?_
  refine lv_iconst (v := (-1)) hx hb d_V_keep_11 (by decide) ?_
  exact z_iretQ hx hb hr hlocks d_V_keep_12 hS (Nat.le_of_ble_eq_true rfl) (Nat.le_of_ble_eq_true rfl) ⟨rfl, hC⟩
set_option maxHeartbeats 4000000 in
set_option maxRecDepth 100000 in
theorem c_V_keep_r (l : Launch) (D : va_G) (dT : Nat → ClassId) (H : Heap) (Bq : Nat → Prop) (vv rg li ed : Nat) (tb : Nat → TR) (tc : Nat) (RV : Nat → Option VT) (hC : cI D dT Bq vv rg li ed tb tc RV H) (hV : vOK tb tc RV) (r : Int32) (x : VT) (t a : Nat) (hwx : wty tb x 0 t) (hrx : rv D dT Bq H x a) (hxl : (cs x).length < 2 ^ 31) : Met l y_V_keep w_V_keep ({ frames := 1, cells := 0, slots := 0, locals := 20 }) (z_P D dT [.ref vv, .int r, .ref a] H) (z_Q (fun q => q = rg) (fun v H1 => v = some (.int (kp RV r (some x)).1) ∧ cI D dT Bq vv rg li ed tb tc (kp RV r (some x)).2 H1)) 0 0 (fun q => q = rg) := by
  obtain ⟨⟨hBs, hBr, hBl, hBe, hBv, hrl, hre, hle⟩, hvv, hCR, hCT⟩ := id hC
  have hO := hV.1
  have htc := hO.1
  have htc10 := hO.2.1
  obtain ⟨fr, hfr, hRVs⟩ := id hCR
  obtain ⟨hvx, hnbx⟩ := rv_hd hwx hrx
  refine Met.ofW (cc := b_V_keep) (maxL := 3) (ret := (Option.some .int)) (by decide) rfl ?_
  intro p e s m args below meth c s₁ B hml hv
  obtain ⟨rfl, rfl, hK⟩ := hv
  have hx := B.exec
  have hb := B.bytes
  have hr := B.returns
  have hts := atoms_spec (ws := w_V_keep) B.pre
  have ht : ∀ w9 ∈ gt, w9.before [.ref vv, .int r, .ref a].toArray s = true := fun w9 h => hts w9 (List.mem_cons_of_mem _ h)
  have hown : s.vm.findClass "ValueTrees" = some m.cls := findClass_of_methodNamed B.named
  have hlocks := B.notSynchronized
  have hS : va_S (fun q => q = rg) s.heap s.heap [] := va_S.rf
  have hl := lv_entry ([.ref vv, .int r, .ref a]) (n := 3) (Nat.le_of_ble_eq_true rfl)
  rw [lg_entry_eq]
  generalize (lg_sl ([.ref vv, .int r, .ref a]) ++ List.replicate (3 - (lg_sl ([.ref vv, .int r, .ref a])).length) Slot.unset).toArray = ls at hl ⊢
  have hl : lv_has ls 3 [(0, .ref vv), (1, .int r), (2, .ref a)] := hl
  have hN : nU s.heap s.heap := nU.rf
  have hArg : (fun q => q = rg) rg := rfl
  refine lv_aload_n hx hb d_V_keep_0 rfl (lv_at hl 2 rfl) ?_
  refine lv_ifnull hx hb d_V_keep_1 ?_
  refine lv_iload_n hx hb d_V_keep_4 rfl (lv_at hl 1 rfl) ?_
  refine z_callR (va_runS (As := [.int r]) (rest := []) ⟨hx, hb, hml, hown, hts⟩ (c_V_isRegister l D dT _ r) ⟨callB_of 1 hts (gI gd_up gd_c q267) rfl rfl rfl (ht _ q1) (ht _ q265) hd_V_isRegister ⟨Nat.le_of_ble_eq_true rfl, Nat.le_of_ble_eq_true rfl⟩, ht _ q266⟩ (z_preS hK) rfl rfl hl.1 rfl (lv_room (Nat.le_of_ble_eq_true rfl)) d_V_keep_5 ⟨Nat.zero_le _, Nat.zero_le _⟩) (fun v2 hv1 => ?_)
  have hv1 : v2 = .int (if inR r then 1 else 0) := hv1
  rcases Classical.em (inR r) with hq3 | hq3
  · rw [if_pos hq3] at hv1
    subst hv1
    refine lv_if_ne (tgt := 13) hx hb d_V_keep_8 (by decide) (fun _ => ?_) (fun c4 => absurd c4 (by decide))
    obtain ⟨j, hj, rfl⟩ := inR_of hq3
    refine lv_aload_n hx hb d_V_keep_13 rfl (lv_at hl 2 rfl) ?_
    refine z_vlen hx hb ht hown hK hvx (ht _ q246) d_V_keep_14 ?_
    refine lv_sipush (v := 160) hx hb d_V_keep_17 (by decide) ?_
    refine lv_icmp_le (tgt := 26) hx hb d_V_keep_20 (by decide) (fun c5 => ?_) (fun c5 => ?_)
    · have nc5 : ((cs x).length) ≤ 160 := (nI_leI (a := ((cs x).length)) (b := 160) (by omega) (by omega)).mp c5
      refine lv_aload_n hx hb d_V_keep_26 rfl (lv_at hl 0 rfl) ?_
      refine va_get (D := D) (ci := 0) (v := .ref rg) (C := "ValueTrees") (T := T_V) (N := 2) hx hb ht in_V hown hK.1 (z_1 (hvv.grew hN.2)) 0 rfl rfl 1 (by decide) (ht _ q146) (fun _ h9 => h9) rfl d_V_keep_27 ?_
      refine lv_iload_n hx hb d_V_keep_30 rfl (lv_at hl 1 rfl) ?_
      refine lv_aload_n hx hb d_V_keep_31 rfl (lv_at hl 2 rfl) ?_
      refine z_aas hx hb hK hS hArg (hfr.grew hN.2) rfl (vh_any hK (hvx.grew hN.2)) j rfl hj (by decide) d_V_keep_32 (fun H locs hfr hz6 ho7 hS => ?_)
      have hC := hC.put hz6 ho7 hfr (rg_upd (o := some x) hRVs (fun h9 => by cases h9) (fun v h9 => by cases h9; exact ⟨a, rfl, hrx⟩))
      have hvx := hvx.off ho7 (fun h9 => hnbx (by rw [h9]; exact hBr))
      refine lv_aload_n hx hb d_V_keep_33 rfl (lv_at hl 2 rfl) ?_
      refine z_vlen hx hb ht hown hK hvx (ht _ q246) d_V_keep_34 ?_
      exact z_iretQ hx hb hr hlocks d_V_keep_37 hS (Nat.le_of_ble_eq_true rfl) (Nat.le_of_ble_eq_true rfl) (by rw [kp_in hj (by omega)]; exact ⟨rfl, hC⟩)
    · have nc5 : ¬ ((cs x).length) ≤ 160 := fun h9 => c5 ((nI_leI (a := ((cs x).length)) (b := 160) (by omega) (by omega)).mpr h9)
      refine lv_bipush (v := (-2)) hx hb d_V_keep_23 (by decide) ?_
      exact z_iretQ hx hb hr hlocks d_V_keep_25 hS (Nat.le_of_ble_eq_true rfl) (Nat.le_of_ble_eq_true rfl) (by rw [kp_full hj (by omega)]; exact ⟨rfl, hC⟩)
  · rw [if_neg hq3] at hv1
    subst hv1
    refine lv_if_ne (tgt := 13) hx hb d_V_keep_8 (by decide) (fun c8 => absurd c8 (by decide)) (fun _ => ?_)
    refine lv_iconst (v := (-1)) hx hb d_V_keep_11 (by decide) ?_
    exact z_iretQ hx hb hr hlocks d_V_keep_12 hS (Nat.le_of_ble_eq_true rfl) (Nat.le_of_ble_eq_true rfl) (by rw [kp_out hq3]; exact ⟨rfl, hC⟩)
