abbrev b_M_has : ByteArray := prog_12_method_62_code
abbrev y_M_has : MethodName := ⟨"ValueTreesModel", "has", "(II)I"⟩
abbrev w_M_has : List Cond := .code y_M_has b_M_has 3 (Option.some .int) :: gt
theorem hd_M_has : (y_M_has).cls ≠ "java/lang/invoke/MethodHandle" ∧ (y_M_has).cls ≠ "java/lang/invoke/VarHandle" ∧ (parseMethodDescriptor (y_M_has).desc).map (fun d => d.parameters.length) = some 2 := by decide +kernel
theorem d_M_has_0 : decode b_M_has 0 = .ok (.aload_n 0, 1) := by decide +kernel
theorem d_M_has_1 : decode b_M_has 1 = .ok (.iload_n 1, 1) := by decide +kernel
theorem d_M_has_2 : decode b_M_has 2 = .ok (.iload_n 2, 1) := by decide +kernel
theorem d_M_has_3 : decode b_M_has 3 = .ok (.invokevirtual 155, 3) := by decide +kernel
theorem d_M_has_6 : decode b_M_has 6 = .ok (.ifCond .ne 7, 3) := by decide +kernel
theorem d_M_has_9 : decode b_M_has 9 = .ok (.iconst (-1), 1) := by decide +kernel
theorem d_M_has_10 : decode b_M_has 10 = .ok (.goto 23, 3) := by decide +kernel
theorem d_M_has_13 : decode b_M_has 13 = .ok (.aload_n 0, 1) := by decide +kernel
theorem d_M_has_14 : decode b_M_has 14 = .ok (.iload_n 1, 1) := by decide +kernel
theorem d_M_has_15 : decode b_M_has 15 = .ok (.aload_n 0, 1) := by decide +kernel
theorem d_M_has_16 : decode b_M_has 16 = .ok (.iload_n 1, 1) := by decide +kernel
theorem d_M_has_17 : decode b_M_has 17 = .ok (.iload_n 2, 1) := by decide +kernel
theorem d_M_has_18 : decode b_M_has 18 = .ok (.invokevirtual 159, 3) := by decide +kernel
theorem d_M_has_21 : decode b_M_has 21 = .ok (.iload_n 2, 1) := by decide +kernel
theorem d_M_has_22 : decode b_M_has 22 = .ok (.invokevirtual 162, 3) := by decide +kernel
theorem d_M_has_25 : decode b_M_has 25 = .ok (.ifCond .eq 7, 3) := by decide +kernel
theorem d_M_has_28 : decode b_M_has 28 = .ok (.iconst 1, 1) := by decide +kernel
theorem d_M_has_29 : decode b_M_has 29 = .ok (.goto 4, 3) := by decide +kernel
theorem d_M_has_32 : decode b_M_has 32 = .ok (.iconst 0, 1) := by decide +kernel
theorem d_M_has_33 : decode b_M_has 33 = .ok (.ireturn, 1) := by decide +kernel
set_option maxHeartbeats 4000000 in
set_option maxRecDepth 100000 in
theorem p_M_has (l : Launch) (D : va_G) (dT : Nat → ClassId) (H : Heap) (mm : Nat → Nat) (tb : Nat → TR) (tc : Nat) (RV : Nat → Option VT) (hI : mI D dT mm tb tc RV H) (tree key : Int32) : Met l y_M_has w_M_has ({ frames := 210, cells := 0, slots := 0, locals := 5400 }) (z_P D dT [.ref (mm 0), .int tree, .int key] H) (z_Q (mA mm) (fun v H1 => v = some (.int (a_has tb RV tree key)) ∧ mI D dT mm tb tc RV H1)) 0 0 (mA mm) := by
  obtain ⟨wd, lf, rt, ty, F, sz, Wk, wz, dg, dc, sh, hM, hO, hT, hR, hWk⟩ := hI
  have hF := hR.1
  have htc := hO.1
  have htc10 := hO.2.1
  refine Met.ofW (cc := b_M_has) (maxL := 3) (ret := (Option.some .int)) (by decide) rfl ?_
  intro p e s m args below meth c s₁ B hml hv
  obtain ⟨rfl, rfl, hK⟩ := hv
  have hx := B.exec
  have hb := B.bytes
  have hr := B.returns
  have hts := atoms_spec (ws := w_M_has) B.pre
  have ht : ∀ w9 ∈ gt, w9.before [.ref (mm 0), .int tree, .int key].toArray s = true := fun w9 h => hts w9 (List.mem_cons_of_mem _ h)
  have hown : s.vm.findClass "ValueTreesModel" = some m.cls := findClass_of_methodNamed B.named
  have hlocks := B.notSynchronized
  have hS : va_S (mA mm) s.heap s.heap [] := va_S.rf
  have hl := lv_entry ([.ref (mm 0), .int tree, .int key]) (n := 3) (Nat.le_of_ble_eq_true rfl)
  rw [lg_entry_eq]
  generalize (lg_sl ([.ref (mm 0), .int tree, .int key]) ++ List.replicate (3 - (lg_sl ([.ref (mm 0), .int tree, .int key])).length) Slot.unset).toArray = ls at hl ⊢
  have hl : lv_has ls 3 [(0, .ref (mm 0)), (1, .int tree), (2, .int key)] := hl
  refine lv_aload_n hx hb d_M_has_0 rfl (lv_at hl 0 rfl) ?_
  refine lv_iload_n hx hb d_M_has_1 rfl (lv_at hl 1 rfl) ?_
  refine lv_iload_n hx hb d_M_has_2 rfl (lv_at hl 2 rfl) ?_
  refine z_callR (va_runV (C := "ValueTreesModel") (As := [.int tree, .int key]) (rest := []) ⟨hx, hb, hml, hown, hts⟩ (c_M_areTreeAndKey l D dT _ mm wd lf rt tc ty F sz Wk wz dg dc sh hM tb hO hT RV hR tree key) ⟨callB_of 2 hts (gI gd_up gd_c q723) rfl rfl rfl (ht _ q10) (ht _ q720) hd_M_areTreeAndKey ⟨Nat.le_of_ble_eq_true rfl, Nat.le_of_ble_eq_true rfl⟩, ht _ q722, ht _ qs34⟩ (z_preV hK (va_recv hK.1 hM.1 (ci := 10) (q0 := 0) rfl rfl)) rfl rfl hl.1 rfl (lv_room (Nat.le_of_ble_eq_true rfl)) d_M_has_3 ⟨Nat.zero_le _, Nat.zero_le _⟩) (fun v2 hv1 => ?_)
  have hv1 : v2 = .int (if aTK tb RV tree key = true then 1 else 0) := hv1
  rcases Classical.em (aTK tb RV tree key = true) with hq3 | hq3
  · rw [if_pos hq3] at hv1
    subst hv1
    refine lv_if_ne (tgt := 13) hx hb d_M_has_6 (by decide) (fun _ => ?_) (fun c4 => absurd c4 (by decide))
    have hatk := hq3
    obtain ⟨jt, jk, t, ch, kv, hjt, hjk, rfl, rfl, hVt, hVk, htl, hwd, hch, hkv, ety, etk, esz, esk, hlc, hlk, hfc, hfk⟩ := tk_facts hR hq3
    obtain ⟨hpa, hpb, hpc⟩ := skp_at (kv := kv) hch hfc
    obtain ⟨e1, e2, e3⟩ := hT t htl
    obtain ⟨hL, hlt, hlp⟩ := tl_some hO htl (by omega)
    rw [hL] at e2
    have e2 : lf t = nI (lt_ tb t) := e2
    have r1 := (hO.2.2 t htl).1
    have hpt := (hO.2.2 t htl).2.2.2.2.2.2.2.2.1
    refine lv_aload_n hx hb d_M_has_13 rfl (lv_at hl 0 rfl) ?_
    refine lv_iload_n hx hb d_M_has_14 rfl (lv_at hl 1 rfl) ?_
    refine lv_aload_n hx hb d_M_has_15 rfl (lv_at hl 0 rfl) ?_
    refine lv_iload_n hx hb d_M_has_16 rfl (lv_at hl 1 rfl) ?_
    refine lv_iload_n hx hb d_M_has_17 rfl (lv_at hl 2 rfl) ?_
    refine z_callQ (va_runV (C := "ValueTreesModel") (As := [.int (nI jt), .int (nI jk)]) (rest := [.int (nI jt), .ref (mm 0)]) ⟨hx, hb, hml, hown, hts⟩ (c_M_entryFor l D dT _ mm wd lf rt tc ty F sz Wk wz dg dc sh hM hF tb hO hT jt jk t ch kv hjt hjk htl hwd hch hkv ety esz hlc hlk hfc hfk) ⟨callB_of 2 hts (gI gd_up gd_c q731) rfl rfl rfl (ht _ q10) (ht _ q728) hd_M_entryFor ⟨Nat.le_of_ble_eq_true rfl, Nat.le_of_ble_eq_true rfl⟩, ht _ q730, ht _ qs36⟩ (z_preV hK (va_recv hK.1 hM.1 (ci := 10) (q0 := 0) rfl rfl)) rfl rfl hl.1 rfl (lv_room (Nat.le_of_ble_eq_true rfl)) d_M_has_18 ⟨Nat.le_refl _, Nat.le_refl _⟩) hS (fun _ h9 => h9) (fun v6 H locs hv5 hz7 hf8 hS => ?_)
    obtain ⟨rfl, dg, dc, sh, hM⟩ := hv5
    refine W.eq (g2 := F0 m 21 ls [.int (nI (160 * jt + 5 + (cs (prc ch kv)).length)), .int (nI jt), .ref (mm 0)]) rfl ?_
    refine lv_iload_n hx hb d_M_has_21 rfl (lv_at hl 2 rfl) ?_
    refine z_callQ (va_runV (C := "ValueTreesModel") (As := [.int (nI jt), .int (nI (160 * jt + 5 + (cs (prc ch kv)).length)), .int (nI jk)]) (rest := []) ⟨hx, hb, hml, hown, hts⟩ (c_M_isThere l D dT _ mm wd lf rt tc ty F sz Wk wz dg dc sh hM hF tb hO hT jt jk t ch kv hjt hjk htl hwd hch hkv ety esz hlc hlk hfc hfk (skp ch kv) (cs (prc ch kv)).length (wty_skp kv hch) hpc hpb) ⟨callB_of 3 hts (gI gd_up gd_c q774) rfl rfl rfl (ht _ q10) (ht _ q771) hd_M_isThere ⟨Nat.le_of_ble_eq_true rfl, Nat.le_of_ble_eq_true rfl⟩, ht _ q773, ht _ qs46⟩ (z_preV hK (va_recv hK.1 hM.1 (ci := 10) (q0 := 0) rfl rfl)) rfl rfl hl.1 rfl (lv_room (Nat.le_of_ble_eq_true rfl)) d_M_has_22 ⟨Nat.le_refl _, Nat.le_refl _⟩) hS (fun _ h9 => h9) (fun v10 H locs hv9 hz11 hf12 hS => ?_)
    obtain ⟨rfl, dg, dc, sh, hM⟩ := hv9
    refine W.eq (g2 := F0 m 25 ls [.int (if thr (skp ch kv) kv = true then 1 else 0)]) rfl ?_
    rcases Classical.em (thr (skp ch kv) kv = true) with hthr | hthr
    · rw [if_pos hthr]
      refine lv_if_eq (tgt := 32) hx hb d_M_has_25 (by decide) (fun c13 => absurd c13 (by decide)) (fun _ => ?_)
      refine lv_iconst (v := 1) hx hb d_M_has_28 (by decide) ?_
      refine lv_goto (tgt := 33) hx hb d_M_has_29 (by decide) ?_
      exact z_iretQ hx hb hr hlocks d_M_has_33 hS (Nat.le_refl _) (Nat.le_refl _) ⟨by unfold a_has; rw [if_pos hatk, rgs_nI hjt, rgs_nI hjk, hVt, hVk]; show _ = some (Value.int (if thr (skp ch kv) kv = true then 1 else 0)); rw [if_pos hthr], _, _, _, _, _, _, _, _, _, _, _, hM, hO, hT, hR, hWk⟩
    · rw [if_neg hthr]
      refine lv_if_eq (tgt := 32) hx hb d_M_has_25 (by decide) (fun _ => ?_) (fun c14 => absurd c14 (by decide))
      refine lv_iconst (v := 0) hx hb d_M_has_32 (by decide) ?_
      exact z_iretQ hx hb hr hlocks d_M_has_33 hS (Nat.le_refl _) (Nat.le_refl _) ⟨by unfold a_has; rw [if_pos hatk, rgs_nI hjt, rgs_nI hjk, hVt, hVk]; show _ = some (Value.int (if thr (skp ch kv) kv = true then 1 else 0)); rw [if_neg hthr], _, _, _, _, _, _, _, _, _, _, _, hM, hO, hT, hR, hWk⟩
  · rw [if_neg hq3] at hv1
    subst hv1
    refine lv_if_ne (tgt := 13) hx hb d_M_has_6 (by decide) (fun c15 => absurd c15 (by decide)) (fun _ => ?_)
    refine lv_iconst (v := (-1)) hx hb d_M_has_9 (by decide) ?_
    refine lv_goto (tgt := 33) hx hb d_M_has_10 (by decide) ?_
    exact z_iretQ hx hb hr hlocks d_M_has_33 hS (Nat.le_refl _) (Nat.le_refl _) ⟨by unfold a_has; rw [if_neg hq3], _, _, _, _, _, _, _, _, _, _, _, hM, hO, hT, hR, hWk⟩
abbrev b_M_take : ByteArray := prog_12_method_49_code
abbrev y_M_take : MethodName := ⟨"ValueTreesModel", "take", "(IIII)I"⟩
abbrev w_M_take : List Cond := .code y_M_take b_M_take 5 (Option.some .int) :: gt
theorem hd_M_take : (y_M_take).cls ≠ "java/lang/invoke/MethodHandle" ∧ (y_M_take).cls ≠ "java/lang/invoke/VarHandle" ∧ (parseMethodDescriptor (y_M_take).desc).map (fun d => d.parameters.length) = some 4 := by decide +kernel
theorem d_M_take_0 : decode b_M_take 0 = .ok (.aload_n 0, 1) := by decide +kernel
theorem d_M_take_1 : decode b_M_take 1 = .ok (.iconst 0, 1) := by decide +kernel
theorem d_M_take_2 : decode b_M_take 2 = .ok (.putfield 98, 3) := by decide +kernel
theorem d_M_take_5 : decode b_M_take 5 = .ok (.aload_n 0, 1) := by decide +kernel
theorem d_M_take_6 : decode b_M_take 6 = .ok (.iload_n 3, 1) := by decide +kernel
theorem d_M_take_7 : decode b_M_take 7 = .ok (.iload 4, 2) := by decide +kernel
theorem d_M_take_9 : decode b_M_take 9 = .ok (.invokevirtual 139, 3) := by decide +kernel
theorem d_M_take_12 : decode b_M_take 12 = .ok (.aload_n 0, 1) := by decide +kernel
theorem d_M_take_13 : decode b_M_take 13 = .ok (.iload_n 1, 1) := by decide +kernel
theorem d_M_take_14 : decode b_M_take 14 = .ok (.iload_n 2, 1) := by decide +kernel
theorem d_M_take_15 : decode b_M_take 15 = .ok (.invokevirtual 121, 3) := by decide +kernel
theorem d_M_take_18 : decode b_M_take 18 = .ok (.ireturn, 1) := by decide +kernel
set_option maxHeartbeats 4000000 in
set_option maxRecDepth 100000 in
theorem c_M_take (l : Launch) (D : va_G) (dT : Nat → ClassId) (H : Heap) (mm : Nat → Nat) (wd lf rt : Nat → Int32) (tc : Nat) (ty : Nat → Int32) (F : Nat → Nat) (sz : Nat → Int32) (Wk : Nat → Nat) (wz : Nat) (dg : Nat → Nat) (dc : Nat) (sh : Nat → Nat) (hM : mAt D dT mm wd lf rt tc ty F sz Wk wz dg dc sh H) (hF : ∀ k, F k < 256) (hWk : ∀ k, Wk k < 256) (j t a : Nat) (bx : List Nat) (hj : j < 16) (hf : fAt F a bx) (ha : a + bx.length ≤ 2560) (hbl : bx.length < 900) : Met l y_M_take w_M_take ({ frames := 2, cells := 0, slots := 0, locals := 44 }) (z_P D dT [.ref (mm 0), .int (nI j), .int (nI t), .int (nI a), .int (nI (a + bx.length))] H) (z_Q (mA mm) (fun v H1 => kO D dT mm wd lf rt tc ty F sz j t bx v H1)) 0 0 (mA mm) := by
  refine Met.ofW (cc := b_M_take) (maxL := 5) (ret := (Option.some .int)) (by decide) rfl ?_
  intro p e s m args below meth c s₁ B hml hv
  obtain ⟨rfl, rfl, hK⟩ := hv
  have hx := B.exec
  have hb := B.bytes
  have hr := B.returns
  have hts := atoms_spec (ws := w_M_take) B.pre
  have ht : ∀ w9 ∈ gt, w9.before [.ref (mm 0), .int (nI j), .int (nI t), .int (nI a), .int (nI (a + bx.length))].toArray s = true := fun w9 h => hts w9 (List.mem_cons_of_mem _ h)
  have hown : s.vm.findClass "ValueTreesModel" = some m.cls := findClass_of_methodNamed B.named
  have hlocks := B.notSynchronized
  have hS : va_S (mA mm) s.heap s.heap [] := va_S.rf
  have hl := lv_entry ([.ref (mm 0), .int (nI j), .int (nI t), .int (nI a), .int (nI (a + bx.length))]) (n := 5) (Nat.le_of_ble_eq_true rfl)
  rw [lg_entry_eq]
  generalize (lg_sl ([.ref (mm 0), .int (nI j), .int (nI t), .int (nI a), .int (nI (a + bx.length))]) ++ List.replicate (5 - (lg_sl ([.ref (mm 0), .int (nI j), .int (nI t), .int (nI a), .int (nI (a + bx.length))])).length) Slot.unset).toArray = ls at hl ⊢
  have hl : lv_has ls 5 [(0, .ref (mm 0)), (1, .int (nI j)), (2, .int (nI t)), (3, .int (nI a)), (4, .int (nI (a + bx.length)))] := hl
  refine lv_aload_n hx hb d_M_take_0 rfl (lv_at hl 0 rfl) ?_
  refine lv_iconst (v := 0) hx hb d_M_take_1 (by decide) ?_
  refine m_put_wz hx hb ht hown hK hM hS (ht _ q547) 0 rfl d_M_take_2 (fun H locs hM hS => ?_)
  have hM : mAt D dT mm wd lf rt tc ty F sz Wk 0 dg dc sh H := hM
  have hW : wAt Wk ([] : List Nat) := wAt_nil hWk
  have hM : mAt D dT mm wd lf rt tc ty F sz Wk (([] : List Nat).length) dg dc sh H := hM
  refine lv_aload_n hx hb d_M_take_5 rfl (lv_at hl 0 rfl) ?_
  refine lv_iload_n hx hb d_M_take_6 rfl (lv_at hl 3 rfl) ?_
  refine lv_iload hx hb d_M_take_7 (lv_at hl 4 rfl) ?_
  refine z_callQ (va_runV (C := "ValueTreesModel") (As := [.int (nI a), .int (nI (a + bx.length))]) (rest := []) ⟨hx, hb, hml, hown, hts⟩ (c_M_putFrom l D dT _ mm wd lf rt tc ty F sz Wk ([] : List Nat) dg dc sh hM hW hF a bx hf (by omega) (by (try simp only [List.length_append, List.length_cons, List.length_nil, size4_len]); omega)) ⟨callB_of 2 hts (gI gd_up gd_c q707) rfl rfl rfl (ht _ q10) (ht _ q704) hd_M_putFrom ⟨Nat.le_of_ble_eq_true rfl, Nat.le_of_ble_eq_true rfl⟩, ht _ q706, ht _ qs33⟩ (z_preV hK (va_recv hK.1 hM.1 (ci := 10) (q0 := 0) rfl rfl)) rfl rfl hl.1 rfl (lv_room (Nat.le_of_ble_eq_true rfl)) d_M_take_9 ⟨Nat.le_refl _, Nat.le_refl _⟩) hS (fun _ h9 => h9) (fun v2 H locs hv1 hz3 hf4 hS => ?_)
  obtain ⟨rfl, Wk, hW, hM⟩ := hv1
  refine W.eq (g2 := F0 m 12 ls []) rfl ?_
  have ebs : ([] : List Nat) ++ bx = bx := rfl
  rw [ebs] at hW hM
  refine lv_aload_n hx hb d_M_take_12 rfl (lv_at hl 0 rfl) ?_
  refine lv_iload_n hx hb d_M_take_13 rfl (lv_at hl 1 rfl) ?_
  refine lv_iload_n hx hb d_M_take_14 rfl (lv_at hl 2 rfl) ?_
  refine z_callQ (va_runV (C := "ValueTreesModel") (As := [.int (nI j), .int (nI t)]) (rest := []) ⟨hx, hb, hml, hown, hts⟩ (c_M_keep l D dT _ mm wd lf rt tc ty F sz Wk bx dg dc sh hM hW j t hj (by (try simp only [List.length_append, List.length_cons, List.length_nil, size4_len]); omega)) ⟨callB_of 2 hts (gI gd_up gd_c q647) rfl rfl rfl (ht _ q10) (ht _ q644) hd_M_keep ⟨Nat.le_of_ble_eq_true rfl, Nat.le_of_ble_eq_true rfl⟩, ht _ q646, ht _ qs25⟩ (z_preV hK (va_recv hK.1 hM.1 (ci := 10) (q0 := 0) rfl rfl)) rfl rfl hl.1 rfl (lv_room (Nat.le_of_ble_eq_true rfl)) d_M_take_15 ⟨Nat.le_refl _, Nat.le_refl _⟩) hS (fun _ h9 => h9) (fun v6 H locs hv5 hz7 hf8 hS => ?_)
  have hk9 : kO D dT mm wd lf rt tc ty F sz j t bx v6 H := ⟨_, _, _, _, _, hW.1, hv5⟩
  obtain ⟨r9, er9⟩ : ∃ r9 : Int32, v6 = some (.int r9) := by rcases hv5 with ⟨-, e9, -⟩ | ⟨-, e9, -⟩ <;> exact ⟨_, e9⟩
  subst er9
  refine W.eq (g2 := F0 m 18 ls [.int r9]) rfl ?_
  exact z_iretQ hx hb hr hlocks d_M_take_18 hS (Nat.le_refl _) (Nat.le_refl _) hk9
