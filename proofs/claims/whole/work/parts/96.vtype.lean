abbrev b_V_type : ByteArray := prog_1_method_2_code
abbrev y_V_type : MethodName := ⟨"ValueTrees", "type", "(III)I"⟩
abbrev w_V_type : List Cond := .code y_V_type b_V_type 5 (Option.some .int) :: gt
theorem hd_V_type : (y_V_type).cls ≠ "java/lang/invoke/MethodHandle" ∧ (y_V_type).cls ≠ "java/lang/invoke/VarHandle" ∧ (parseMethodDescriptor (y_V_type).desc).map (fun d => d.parameters.length) = some 3 := by decide +kernel
theorem d_V_type_0 : decode b_V_type 0 = .ok (.aload_n 0, 1) := by decide +kernel
theorem d_V_type_1 : decode b_V_type 1 = .ok (.iload_n 1, 1) := by decide +kernel
theorem d_V_type_2 : decode b_V_type 2 = .ok (.iload_n 2, 1) := by decide +kernel
theorem d_V_type_3 : decode b_V_type 3 = .ok (.iload_n 3, 1) := by decide +kernel
theorem d_V_type_4 : decode b_V_type 4 = .ok (.invokevirtual 35, 3) := by decide +kernel
theorem d_V_type_7 : decode b_V_type 7 = .ok (.astore 4, 2) := by decide +kernel
theorem d_V_type_9 : decode b_V_type 9 = .ok (.aload 4, 2) := by decide +kernel
theorem d_V_type_11 : decode b_V_type 11 = .ok (.ifnonnull 7, 3) := by decide +kernel
theorem d_V_type_14 : decode b_V_type 14 = .ok (.iconst (-1), 1) := by decide +kernel
theorem d_V_type_15 : decode b_V_type 15 = .ok (.goto 9, 3) := by decide +kernel
theorem d_V_type_18 : decode b_V_type 18 = .ok (.aload_n 0, 1) := by decide +kernel
theorem d_V_type_19 : decode b_V_type 19 = .ok (.aload 4, 2) := by decide +kernel
theorem d_V_type_21 : decode b_V_type 21 = .ok (.invokevirtual 39, 3) := by decide +kernel
theorem d_V_type_24 : decode b_V_type 24 = .ok (.ireturn, 1) := by decide +kernel
set_option maxHeartbeats 4000000 in
set_option maxRecDepth 100000 in
theorem p_V_type (l : Launch) (D : va_G) (dT : Nat → ClassId) (H : Heap) (Bq : Nat → Prop) (vv rg li ed : Nat) (tb : Nat → TR) (tc : Nat) (RV : Nat → Option VT) (hC : cI D dT Bq vv rg li ed tb tc RV H) (hV : vOK tb tc RV) (wd9 a b : Int32) : Met l y_V_type w_V_type ({ frames := 8, cells := 2, slots := 3005, locals := 175 }) (z_P D dT [.ref vv, .int wd9, .int a, .int b] H) (z_Q (fun q => q = li ∨ q = ed ∨ H.size ≤ q) (fun v H1 => v = some (.int (a_type tb tc wd9 a b).1) ∧ cX D dT Bq vv rg li ed (a_type tb tc wd9 a b).2.1 (a_type tb tc wd9 a b).2.2 RV H.size H1)) 2 3005 (fun q => q = li ∨ q = ed ∨ H.size ≤ q) := by
  obtain ⟨⟨hBs, hBr, hBl, hBe, hBv, hrl, hre, hle⟩, hvv, hCR, hCT⟩ := id hC
  have hO := hV.1
  have htc := hO.1
  have htc10 := hO.2.1
  refine Met.ofW (cc := b_V_type) (maxL := 5) (ret := (Option.some .int)) (by decide) rfl ?_
  intro p e s m args below meth c s₁ B hml hv
  obtain ⟨rfl, rfl, hK⟩ := hv
  have hx := B.exec
  have hb := B.bytes
  have hr := B.returns
  have hts := atoms_spec (ws := w_V_type) B.pre
  have ht : ∀ w9 ∈ gt, w9.before [.ref vv, .int wd9, .int a, .int b].toArray s = true := fun w9 h => hts w9 (List.mem_cons_of_mem _ h)
  have hown : s.vm.findClass "ValueTrees" = some m.cls := findClass_of_methodNamed B.named
  have hlocks := B.notSynchronized
  have hS : va_S (fun q => q = li ∨ q = ed ∨ s.heap.size ≤ q) s.heap s.heap [] := va_S.rf
  have hl := lv_entry ([.ref vv, .int wd9, .int a, .int b]) (n := 5) (Nat.le_of_ble_eq_true rfl)
  rw [lg_entry_eq]
  generalize (lg_sl ([.ref vv, .int wd9, .int a, .int b]) ++ List.replicate (5 - (lg_sl ([.ref vv, .int wd9, .int a, .int b])).length) Slot.unset).toArray = ls at hl ⊢
  have hl : lv_has ls 5 [(0, .ref vv), (1, .int wd9), (2, .int a), (3, .int b)] := hl
  have hN : nU s.heap s.heap := nU.rf
  refine lv_aload_n hx hb d_V_type_0 rfl (lv_at hl 0 rfl) ?_
  refine lv_iload_n hx hb d_V_type_1 rfl (lv_at hl 1 rfl) ?_
  refine lv_iload_n hx hb d_V_type_2 rfl (lv_at hl 2 rfl) ?_
  refine lv_iload_n hx hb d_V_type_3 rfl (lv_at hl 3 rfl) ?_
  refine z_callQ (va_runV (C := "ValueTrees") (As := [.int wd9, .int a, .int b]) (rest := []) ⟨hx, hb, hml, hown, hts⟩ (c_V_wantedType l D dT _ Bq vv rg li ed tb tc RV (hC.up hN) hV wd9 a b) ⟨callB_of 3 hts (gI gd_up gd_c q159) rfl rfl rfl (ht _ q1) (ht _ q156) hd_V_wantedType ⟨Nat.le_of_ble_eq_true rfl, Nat.le_of_ble_eq_true rfl⟩, ht _ q158, ht _ qs3⟩ (z_preV hK (va_recv hK.1 (z_1 (hvv.grew hN.2)) (ci := 0) (q0 := 0) rfl rfl)) rfl rfl hl.1 rfl (lv_room (Nat.le_of_ble_eq_true rfl)) d_V_type_4 ⟨(Nat.le_of_ble_eq_true rfl), (Nat.le_of_ble_eq_true rfl)⟩) hS (fun _ h9 => Or.inr (Or.inr (Nat.le_trans hN.1 h9))) (fun v2 H locs hv1 hz3 hf4 hS => ?_)
  rcases hv1 with ⟨rfl, hro0⟩ | ⟨ad5, wn9, k9, ob9, rfl, hrow, hro, hxad5, oad5⟩
  · have hN := hN.call hz3 hf4 (fun x9 hx9 h9 => absurd (Nat.lt_of_lt_of_le hx9 hN.1) (Nat.not_lt.mpr h9))
    refine W.eq (g2 := F0 m 7 ls [.null]) rfl ?_
    refine lv_astoreN (lv' := [(4, .null), (0, .ref vv), (1, .int wd9), (2, .int a), (3, .int b)]) hx hb d_V_type_7 hl (by decide) rfl (fun ls hl => ?_)
    refine lv_aloadN hx hb d_V_type_9 (lv_at hl 0 rfl) ?_
    refine lv_ifnonnullN hx hb d_V_type_11 ?_
    refine lv_iconst (v := (-1)) hx hb d_V_type_14 (by decide) ?_
    refine lv_goto (tgt := 24) hx hb d_V_type_15 (by decide) ?_
    exact z_iretQ hx hb hr hlocks d_V_type_24 hS (Nat.le_of_ble_eq_true rfl) (Nat.le_of_ble_eq_true rfl) (by rw [ty_none hro0]; exact ⟨rfl, cX.rf (hC.up hN)⟩)
  · have hgad5 : s.heap.size ≤ ad5 := Nat.le_trans hN.1 hxad5
    have hN := hN.call hz3 hf4 (fun x9 hx9 h9 => absurd (Nat.lt_of_lt_of_le hx9 hN.1) (Nat.not_lt.mpr h9))
    refine W.eq (g2 := F0 m 7 ls [.ref ad5]) rfl ?_
    refine lv_astore (lv' := [(4, .ref ad5), (0, .ref vv), (1, .int wd9), (2, .int a), (3, .int b)]) hx hb d_V_type_7 hl (by decide) rfl (fun ls hl => ?_)
    refine lv_aload hx hb d_V_type_9 (lv_at hl 0 rfl) ?_
    refine lv_ifnonnull (tgt := 18) hx hb d_V_type_11 (by decide) ?_
    refine lv_aload_n hx hb d_V_type_18 rfl (lv_at hl 1 rfl) ?_
    refine lv_aload hx hb d_V_type_19 (lv_at hl 0 rfl) ?_
    have hNs := hN.1
    refine z_callQ (va_runV (C := "ValueTrees") (As := [.ref ad5]) (rest := []) ⟨hx, hb, hml, hown, hts⟩ (c_V_numberOf l D dT _ Bq vv rg li ed tb tc RV (hC.up hN) hV ad5 wn9 k9 ob9 hro oad5 (fun h9 => absurd (hBs _ h9) (Nat.not_lt.mpr hgad5))) ⟨callB_of 1 hts (gI gd_up gd_c q189) rfl rfl rfl (ht _ q1) (ht _ q186) hd_V_numberOf ⟨Nat.le_of_ble_eq_true rfl, Nat.le_of_ble_eq_true rfl⟩, ht _ q188, ht _ qs5⟩ (z_preV hK (va_recv hK.1 (z_1 (hvv.grew hN.2)) (ci := 0) (q0 := 0) rfl rfl)) rfl rfl hl.1 rfl (lv_room (Nat.le_of_ble_eq_true rfl)) d_V_type_21 ⟨(Nat.le_of_ble_eq_true rfl), (Nat.le_of_ble_eq_true rfl)⟩) hS (fun _ h9 => h9.imp (fun h => h) (fun h8 => h8.imp (fun h => h) (fun h7 => Nat.le_trans hNs h7))) (fun v7 H locs hv6 hz8 hf9 hS => ?_)
    obtain ⟨rfl, hX⟩ := hv6
    refine W.eq (g2 := F0 m 24 ls [.int (numA tb tc (mkR tb wn9 k9 ob9))]) rfl ?_
    exact z_iretQ hx hb hr hlocks d_V_type_24 hS (Nat.le_of_ble_eq_true rfl) (Nat.le_of_ble_eq_true rfl) (by rw [a_type_num hrow]; exact ⟨rfl, hX.weak hNs⟩)
