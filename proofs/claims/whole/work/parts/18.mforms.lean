abbrev b_M_sizeAt : ByteArray := prog_12_method_19_code
abbrev y_M_sizeAt : MethodName := ⟨"ValueTreesModel", "sizeAt", "(I)I"⟩
abbrev w_M_sizeAt : List Cond := .code y_M_sizeAt b_M_sizeAt 2 (Option.some .int) :: gt
theorem hd_M_sizeAt : (y_M_sizeAt).cls ≠ "java/lang/invoke/MethodHandle" ∧ (y_M_sizeAt).cls ≠ "java/lang/invoke/VarHandle" ∧ (parseMethodDescriptor (y_M_sizeAt).desc).map (fun d => d.parameters.length) = some 1 := by decide +kernel
theorem d_M_sizeAt_0 : decode b_M_sizeAt 0 = .ok (.aload_n 0, 1) := by decide +kernel
theorem d_M_sizeAt_1 : decode b_M_sizeAt 1 = .ok (.iload_n 1, 1) := by decide +kernel
theorem d_M_sizeAt_2 : decode b_M_sizeAt 2 = .ok (.invokevirtual 72, 3) := by decide +kernel
theorem d_M_sizeAt_5 : decode b_M_sizeAt 5 = .ok (.bipush 24, 2) := by decide +kernel
theorem d_M_sizeAt_7 : decode b_M_sizeAt 7 = .ok (.ishl, 1) := by decide +kernel
theorem d_M_sizeAt_8 : decode b_M_sizeAt 8 = .ok (.aload_n 0, 1) := by decide +kernel
theorem d_M_sizeAt_9 : decode b_M_sizeAt 9 = .ok (.iload_n 1, 1) := by decide +kernel
theorem d_M_sizeAt_10 : decode b_M_sizeAt 10 = .ok (.iconst 1, 1) := by decide +kernel
theorem d_M_sizeAt_11 : decode b_M_sizeAt 11 = .ok (.iadd, 1) := by decide +kernel
theorem d_M_sizeAt_12 : decode b_M_sizeAt 12 = .ok (.invokevirtual 72, 3) := by decide +kernel
theorem d_M_sizeAt_15 : decode b_M_sizeAt 15 = .ok (.bipush 16, 2) := by decide +kernel
theorem d_M_sizeAt_17 : decode b_M_sizeAt 17 = .ok (.ishl, 1) := by decide +kernel
theorem d_M_sizeAt_18 : decode b_M_sizeAt 18 = .ok (.iadd, 1) := by decide +kernel
theorem d_M_sizeAt_19 : decode b_M_sizeAt 19 = .ok (.aload_n 0, 1) := by decide +kernel
theorem d_M_sizeAt_20 : decode b_M_sizeAt 20 = .ok (.iload_n 1, 1) := by decide +kernel
theorem d_M_sizeAt_21 : decode b_M_sizeAt 21 = .ok (.iconst 2, 1) := by decide +kernel
theorem d_M_sizeAt_22 : decode b_M_sizeAt 22 = .ok (.iadd, 1) := by decide +kernel
theorem d_M_sizeAt_23 : decode b_M_sizeAt 23 = .ok (.invokevirtual 72, 3) := by decide +kernel
theorem d_M_sizeAt_26 : decode b_M_sizeAt 26 = .ok (.bipush 8, 2) := by decide +kernel
theorem d_M_sizeAt_28 : decode b_M_sizeAt 28 = .ok (.ishl, 1) := by decide +kernel
theorem d_M_sizeAt_29 : decode b_M_sizeAt 29 = .ok (.iadd, 1) := by decide +kernel
theorem d_M_sizeAt_30 : decode b_M_sizeAt 30 = .ok (.aload_n 0, 1) := by decide +kernel
theorem d_M_sizeAt_31 : decode b_M_sizeAt 31 = .ok (.iload_n 1, 1) := by decide +kernel
theorem d_M_sizeAt_32 : decode b_M_sizeAt 32 = .ok (.iconst 3, 1) := by decide +kernel
theorem d_M_sizeAt_33 : decode b_M_sizeAt 33 = .ok (.iadd, 1) := by decide +kernel
theorem d_M_sizeAt_34 : decode b_M_sizeAt 34 = .ok (.invokevirtual 72, 3) := by decide +kernel
theorem d_M_sizeAt_37 : decode b_M_sizeAt 37 = .ok (.iadd, 1) := by decide +kernel
theorem d_M_sizeAt_38 : decode b_M_sizeAt 38 = .ok (.ireturn, 1) := by decide +kernel
set_option maxHeartbeats 4000000 in
set_option maxRecDepth 100000 in
theorem c_M_sizeAt (l : Launch) (D : va_G) (dT : Nat → ClassId) (H : Heap) (mm : Nat → Nat) (wd lf rt : Nat → Int32) (tc : Nat) (ty : Nat → Int32) (F : Nat → Nat) (sz : Nat → Int32) (Wk : Nat → Nat) (wz : Nat) (dg : Nat → Nat) (dc : Nat) (sh : Nat → Nat) (hM : mAt D dT mm wd lf rt tc ty F sz Wk wz dg dc sh H) (hF : ∀ k, F k < 256) (a n : Nat) (ha : a + 4 ≤ 2560) (hn : n < 16777216) (hf : fAt F a (size4 n)) : Met l y_M_sizeAt w_M_sizeAt ({ frames := 1, cells := 0, slots := 0, locals := 21 }) (z_P D dT [.ref (mm 0), .int (nI a)] H) (z_R (fun v => v = .int (nI n))) 0 0 (fun _ => False) := by
  refine Met.ofW (cc := b_M_sizeAt) (maxL := 2) (ret := (Option.some .int)) (by decide) rfl ?_
  intro p e s m args below meth c s₁ B hml hv
  obtain ⟨rfl, rfl, hK⟩ := hv
  have hx := B.exec
  have hb := B.bytes
  have hr := B.returns
  have hts := atoms_spec (ws := w_M_sizeAt) B.pre
  have ht : ∀ w9 ∈ gt, w9.before [.ref (mm 0), .int (nI a)].toArray s = true := fun w9 h => hts w9 (List.mem_cons_of_mem _ h)
  have hown : s.vm.findClass "ValueTreesModel" = some m.cls := findClass_of_methodNamed B.named
  have hlocks := B.notSynchronized
  have hl := lv_entry ([.ref (mm 0), .int (nI a)]) (n := 2) (Nat.le_of_ble_eq_true rfl)
  rw [lg_entry_eq]
  generalize (lg_sl ([.ref (mm 0), .int (nI a)]) ++ List.replicate (2 - (lg_sl ([.ref (mm 0), .int (nI a)])).length) Slot.unset).toArray = ls at hl ⊢
  have hl : lv_has ls 2 [(0, .ref (mm 0)), (1, .int (nI a))] := hl
  obtain ⟨f0, f1, f2, f3, -⟩ : F a = n / 16777216 % 256 ∧ F (a + 1) = n / 65536 % 256 ∧ F (a + 1 + 1) = n / 256 % 256 ∧ F (a + 1 + 1 + 1) = n % 256 ∧ True := by
    have h9 := hf
    simp only [size4, fAt_cons] at h9
    exact ⟨h9.1, h9.2.1, h9.2.2.1, h9.2.2.2.1, trivial⟩
  refine lv_aload_n hx hb d_M_sizeAt_0 rfl (lv_at hl 0 rfl) ?_
  refine lv_iload_n hx hb d_M_sizeAt_1 rfl (lv_at hl 1 rfl) ?_
  refine z_callR (va_runV (C := "ValueTreesModel") (As := [.int (nI a)]) (rest := []) ⟨hx, hb, hml, hown, hts⟩ (c_M_byteOf l D dT _ mm wd lf rt tc ty F sz Wk wz dg dc sh hM a (by omega) (hF _)) ⟨callB_of 1 hts (gI gd_up gd_c q670) rfl rfl rfl (ht _ q10) (ht _ q667) hd_M_byteOf ⟨Nat.le_of_ble_eq_true rfl, Nat.le_of_ble_eq_true rfl⟩, ht _ q669, ht _ qs29⟩ (z_preV hK (va_recv hK.1 hM.1 (ci := 10) (q0 := 0) rfl rfl)) rfl rfl hl.1 rfl (lv_room (Nat.le_of_ble_eq_true rfl)) d_M_sizeAt_2 ⟨Nat.zero_le _, Nat.zero_le _⟩) (fun v2 hv1 => ?_)
  subst hv1
  rw [f0]
  refine lv_bipush (v := 24) hx hb d_M_sizeAt_5 (by decide) ?_
  refine lv_ishl hx hb d_M_sizeAt_7 ?_
  refine lv_aload_n hx hb d_M_sizeAt_8 rfl (lv_at hl 0 rfl) ?_
  refine lv_iload_n hx hb d_M_sizeAt_9 rfl (lv_at hl 1 rfl) ?_
  refine lv_iconst (v := 1) hx hb d_M_sizeAt_10 (by decide) ?_
  refine lv_iadd hx hb d_M_sizeAt_11 ?_
  rw [show (((nI a) + 1) : Int32) = nI (a + 1) from nI_add a 1]
  refine z_callR (va_runV (C := "ValueTreesModel") (As := [.int (nI (a + 1))]) (rest := [.int ((nI (n / 16777216 % 256)) <<< (24 &&& 31))]) ⟨hx, hb, hml, hown, hts⟩ (c_M_byteOf l D dT _ mm wd lf rt tc ty F sz Wk wz dg dc sh hM (a + 1) (by omega) (hF _)) ⟨callB_of 1 hts (gI gd_up gd_c q670) rfl rfl rfl (ht _ q10) (ht _ q667) hd_M_byteOf ⟨Nat.le_of_ble_eq_true rfl, Nat.le_of_ble_eq_true rfl⟩, ht _ q669, ht _ qs29⟩ (z_preV hK (va_recv hK.1 hM.1 (ci := 10) (q0 := 0) rfl rfl)) rfl rfl hl.1 rfl (lv_room (Nat.le_of_ble_eq_true rfl)) d_M_sizeAt_12 ⟨Nat.zero_le _, Nat.zero_le _⟩) (fun v4 hv3 => ?_)
  subst hv3
  rw [f1]
  refine lv_bipush (v := 16) hx hb d_M_sizeAt_15 (by decide) ?_
  refine lv_ishl hx hb d_M_sizeAt_17 ?_
  refine lv_iadd hx hb d_M_sizeAt_18 ?_
  refine lv_aload_n hx hb d_M_sizeAt_19 rfl (lv_at hl 0 rfl) ?_
  refine lv_iload_n hx hb d_M_sizeAt_20 rfl (lv_at hl 1 rfl) ?_
  refine lv_iconst (v := 2) hx hb d_M_sizeAt_21 (by decide) ?_
  refine lv_iadd hx hb d_M_sizeAt_22 ?_
  rw [show (((nI a) + 2) : Int32) = nI (a + 2) from nI_add a 2]
  refine z_callR (va_runV (C := "ValueTreesModel") (As := [.int (nI (a + 2))]) (rest := [.int (((nI (n / 16777216 % 256)) <<< (24 &&& 31)) + ((nI (n / 65536 % 256)) <<< (16 &&& 31)))]) ⟨hx, hb, hml, hown, hts⟩ (c_M_byteOf l D dT _ mm wd lf rt tc ty F sz Wk wz dg dc sh hM (a + 2) (by omega) (hF _)) ⟨callB_of 1 hts (gI gd_up gd_c q670) rfl rfl rfl (ht _ q10) (ht _ q667) hd_M_byteOf ⟨Nat.le_of_ble_eq_true rfl, Nat.le_of_ble_eq_true rfl⟩, ht _ q669, ht _ qs29⟩ (z_preV hK (va_recv hK.1 hM.1 (ci := 10) (q0 := 0) rfl rfl)) rfl rfl hl.1 rfl (lv_room (Nat.le_of_ble_eq_true rfl)) d_M_sizeAt_23 ⟨Nat.zero_le _, Nat.zero_le _⟩) (fun v6 hv5 => ?_)
  subst hv5
  rw [(show F (a + 2) = n / 256 % 256 from f2)]
  refine lv_bipush (v := 8) hx hb d_M_sizeAt_26 (by decide) ?_
  refine lv_ishl hx hb d_M_sizeAt_28 ?_
  refine lv_iadd hx hb d_M_sizeAt_29 ?_
  refine lv_aload_n hx hb d_M_sizeAt_30 rfl (lv_at hl 0 rfl) ?_
  refine lv_iload_n hx hb d_M_sizeAt_31 rfl (lv_at hl 1 rfl) ?_
  refine lv_iconst (v := 3) hx hb d_M_sizeAt_32 (by decide) ?_
  refine lv_iadd hx hb d_M_sizeAt_33 ?_
  rw [show (((nI a) + 3) : Int32) = nI (a + 3) from nI_add a 3]
  refine z_callR (va_runV (C := "ValueTreesModel") (As := [.int (nI (a + 3))]) (rest := [.int ((((nI (n / 16777216 % 256)) <<< (24 &&& 31)) + ((nI (n / 65536 % 256)) <<< (16 &&& 31))) + ((nI (n / 256 % 256)) <<< (8 &&& 31)))]) ⟨hx, hb, hml, hown, hts⟩ (c_M_byteOf l D dT _ mm wd lf rt tc ty F sz Wk wz dg dc sh hM (a + 3) (by omega) (hF _)) ⟨callB_of 1 hts (gI gd_up gd_c q670) rfl rfl rfl (ht _ q10) (ht _ q667) hd_M_byteOf ⟨Nat.le_of_ble_eq_true rfl, Nat.le_of_ble_eq_true rfl⟩, ht _ q669, ht _ qs29⟩ (z_preV hK (va_recv hK.1 hM.1 (ci := 10) (q0 := 0) rfl rfl)) rfl rfl hl.1 rfl (lv_room (Nat.le_of_ble_eq_true rfl)) d_M_sizeAt_34 ⟨Nat.zero_le _, Nat.zero_le _⟩) (fun v8 hv7 => ?_)
  subst hv7
  rw [(show F (a + 3) = n % 256 from f3)]
  refine lv_iadd hx hb d_M_sizeAt_37 ?_
  exact z_iretR hx hb hr hlocks d_M_sizeAt_38 (by rw [nI_shl24 (by omega), nI_shl16 (by omega), nI_shl8 (by omega), nI_add, nI_add, nI_add, size4_get n (by omega)])
abbrev b_M_isKeyed : ByteArray := prog_12_method_40_code
abbrev y_M_isKeyed : MethodName := ⟨"ValueTreesModel", "isKeyed", "(I)Z"⟩
abbrev w_M_isKeyed : List Cond := .code y_M_isKeyed b_M_isKeyed 2 (Option.some .boolean) :: gt
theorem hd_M_isKeyed : (y_M_isKeyed).cls ≠ "java/lang/invoke/MethodHandle" ∧ (y_M_isKeyed).cls ≠ "java/lang/invoke/VarHandle" ∧ (parseMethodDescriptor (y_M_isKeyed).desc).map (fun d => d.parameters.length) = some 1 := by decide +kernel
theorem d_M_isKeyed_0 : decode b_M_isKeyed 0 = .ok (.aload_n 0, 1) := by decide +kernel
theorem d_M_isKeyed_1 : decode b_M_isKeyed 1 = .ok (.getfield 7, 3) := by decide +kernel
theorem d_M_isKeyed_4 : decode b_M_isKeyed 4 = .ok (.iload_n 1, 1) := by decide +kernel
theorem d_M_isKeyed_5 : decode b_M_isKeyed 5 = .ok (.iaload, 1) := by decide +kernel
theorem d_M_isKeyed_6 : decode b_M_isKeyed 6 = .ok (.bipush 12, 2) := by decide +kernel
theorem d_M_isKeyed_8 : decode b_M_isKeyed 8 = .ok (.if_icmp .eq 7, 3) := by decide +kernel
theorem d_M_isKeyed_11 : decode b_M_isKeyed 11 = .ok (.iconst 1, 1) := by decide +kernel
theorem d_M_isKeyed_12 : decode b_M_isKeyed 12 = .ok (.goto 4, 3) := by decide +kernel
theorem d_M_isKeyed_15 : decode b_M_isKeyed 15 = .ok (.iconst 0, 1) := by decide +kernel
theorem d_M_isKeyed_16 : decode b_M_isKeyed 16 = .ok (.ireturn, 1) := by decide +kernel
set_option maxHeartbeats 4000000 in
set_option maxRecDepth 100000 in
theorem c_M_isKeyed (l : Launch) (D : va_G) (dT : Nat → ClassId) (H : Heap) (mm : Nat → Nat) (wd lf rt : Nat → Int32) (tc : Nat) (ty : Nat → Int32) (F : Nat → Nat) (sz : Nat → Int32) (Wk : Nat → Nat) (wz : Nat) (dg : Nat → Nat) (dc : Nat) (sh : Nat → Nat) (hM : mAt D dT mm wd lf rt tc ty F sz Wk wz dg dc sh H) (tb : Nat → TR) (hO : tOK tb tc) (hT : mT tb tc wd lf rt) (t : Nat) (htl : t < tc) : Met l y_M_isKeyed w_M_isKeyed ({ frames := 0, cells := 0, slots := 0, locals := 0 }) (z_P D dT [.ref (mm 0), .int (nI t)] H) (z_R (fun v => v = .int (if ¬ tW (tb t) = 12 then 1 else 0))) 0 0 (fun _ => False) := by
  refine Met.ofW (cc := b_M_isKeyed) (maxL := 2) (ret := (Option.some .boolean)) (by decide) rfl ?_
  intro p e s m args below meth c s₁ B hml hv
  obtain ⟨rfl, rfl, hK⟩ := hv
  have hx := B.exec
  have hb := B.bytes
  have hr := B.returns
  have hts := atoms_spec (ws := w_M_isKeyed) B.pre
  have ht : ∀ w9 ∈ gt, w9.before [.ref (mm 0), .int (nI t)].toArray s = true := fun w9 h => hts w9 (List.mem_cons_of_mem _ h)
  have hown : s.vm.findClass "ValueTreesModel" = some m.cls := findClass_of_methodNamed B.named
  have hlocks := B.notSynchronized
  have hl := lv_entry ([.ref (mm 0), .int (nI t)]) (n := 2) (Nat.le_of_ble_eq_true rfl)
  rw [lg_entry_eq]
  generalize (lg_sl ([.ref (mm 0), .int (nI t)]) ++ List.replicate (2 - (lg_sl ([.ref (mm 0), .int (nI t)])).length) Slot.unset).toArray = ls at hl ⊢
  have hl : lv_has ls 2 [(0, .ref (mm 0)), (1, .int (nI t))] := hl
  have htc := hO.1
  obtain ⟨e1, e2, e3⟩ := hT t htl
  have r1 := (hO.2.2 t htl).1
  refine lv_aload_n hx hb d_M_isKeyed_0 rfl (lv_at hl 0 rfl) ?_
  refine va_get (D := D) (ci := 10) (v := .ref (mm 1)) (C := "ValueTreesModel") (T := T_M) (N := 12) hx hb ht in_M hown hK.1 hM.1 0 rfl rfl 0 (by decide) (ht _ q539) (fun _ h9 => h9) rfl d_M_isKeyed_1 ?_
  refine lv_iload_n hx hb d_M_isKeyed_4 rfl (lv_at hl 1 rfl) ?_
  refine z_iald hx hb hK (hM.1 1 _ rfl) t rfl (by omega) (by decide) d_M_isKeyed_5 ?_
  rw [e1]
  refine lv_bipush (v := 12) hx hb d_M_isKeyed_6 (by decide) ?_
  refine lv_icmp_eq (tgt := 15) hx hb d_M_isKeyed_8 (by decide) (fun c1 => ?_) (fun c1 => ?_)
  · have nc1 : (tW (tb t)) = 12 := (nI_eq (a := (tW (tb t))) (b := 12) (by omega) (by omega)).mp c1
    refine lv_iconst (v := 0) hx hb d_M_isKeyed_15 (by decide) ?_
    exact z_zretR hx hb hr hlocks d_M_isKeyed_16 rfl (by first | rw [if_pos nc1] | rw [if_neg (fun h9 => h9 nc1)])
  · have nc1 : ¬ (tW (tb t)) = 12 := fun h9 => c1 ((nI_eq (a := (tW (tb t))) (b := 12) (by omega) (by omega)).mpr h9)
    refine lv_iconst (v := 1) hx hb d_M_isKeyed_11 (by decide) ?_
    refine lv_goto (tgt := 16) hx hb d_M_isKeyed_12 (by decide) ?_
    exact z_zretR hx hb hr hlocks d_M_isKeyed_16 rfl (by first | rw [if_pos nc1] | rw [if_neg (fun h9 => h9 nc1)])
abbrev b_M_keyAt : ByteArray := prog_12_method_41_code
abbrev y_M_keyAt : MethodName := ⟨"ValueTreesModel", "keyAt", "(II)I"⟩
abbrev w_M_keyAt : List Cond := .code y_M_keyAt b_M_keyAt 3 (Option.some .int) :: gt
theorem hd_M_keyAt : (y_M_keyAt).cls ≠ "java/lang/invoke/MethodHandle" ∧ (y_M_keyAt).cls ≠ "java/lang/invoke/VarHandle" ∧ (parseMethodDescriptor (y_M_keyAt).desc).map (fun d => d.parameters.length) = some 2 := by decide +kernel
theorem d_M_keyAt_0 : decode b_M_keyAt 0 = .ok (.aload_n 0, 1) := by decide +kernel
theorem d_M_keyAt_1 : decode b_M_keyAt 1 = .ok (.iload_n 1, 1) := by decide +kernel
theorem d_M_keyAt_2 : decode b_M_keyAt 2 = .ok (.invokevirtual 143, 3) := by decide +kernel
theorem d_M_keyAt_5 : decode b_M_keyAt 5 = .ok (.ifCond .eq 9, 3) := by decide +kernel
theorem d_M_keyAt_8 : decode b_M_keyAt 8 = .ok (.iload_n 2, 1) := by decide +kernel
theorem d_M_keyAt_9 : decode b_M_keyAt 9 = .ok (.iconst 2, 1) := by decide +kernel
theorem d_M_keyAt_10 : decode b_M_keyAt 10 = .ok (.iadd, 1) := by decide +kernel
theorem d_M_keyAt_11 : decode b_M_keyAt 11 = .ok (.goto 4, 3) := by decide +kernel
theorem d_M_keyAt_14 : decode b_M_keyAt 14 = .ok (.iload_n 2, 1) := by decide +kernel
theorem d_M_keyAt_15 : decode b_M_keyAt 15 = .ok (.ireturn, 1) := by decide +kernel
set_option maxHeartbeats 4000000 in
set_option maxRecDepth 100000 in
theorem c_M_keyAt (l : Launch) (D : va_G) (dT : Nat → ClassId) (H : Heap) (mm : Nat → Nat) (wd lf rt : Nat → Int32) (tc : Nat) (ty : Nat → Int32) (F : Nat → Nat) (sz : Nat → Int32) (Wk : Nat → Nat) (wz : Nat) (dg : Nat → Nat) (dc : Nat) (sh : Nat → Nat) (hM : mAt D dT mm wd lf rt tc ty F sz Wk wz dg dc sh H) (tb : Nat → TR) (hO : tOK tb tc) (hT : mT tb tc wd lf rt) (t a : Nat) (htl : t < tc) : Met l y_M_keyAt w_M_keyAt ({ frames := 1, cells := 0, slots := 0, locals := 21 }) (z_P D dT [.ref (mm 0), .int (nI t), .int (nI a)] H) (z_R (fun v => v = .int (nI (if tW (tb t) = 12 then a else a + 2)))) 0 0 (fun _ => False) := by
  refine Met.ofW (cc := b_M_keyAt) (maxL := 3) (ret := (Option.some .int)) (by decide) rfl ?_
  intro p e s m args below meth c s₁ B hml hv
  obtain ⟨rfl, rfl, hK⟩ := hv
  have hx := B.exec
  have hb := B.bytes
  have hr := B.returns
  have hts := atoms_spec (ws := w_M_keyAt) B.pre
  have ht : ∀ w9 ∈ gt, w9.before [.ref (mm 0), .int (nI t), .int (nI a)].toArray s = true := fun w9 h => hts w9 (List.mem_cons_of_mem _ h)
  have hown : s.vm.findClass "ValueTreesModel" = some m.cls := findClass_of_methodNamed B.named
  have hlocks := B.notSynchronized
  have hl := lv_entry ([.ref (mm 0), .int (nI t), .int (nI a)]) (n := 3) (Nat.le_of_ble_eq_true rfl)
  rw [lg_entry_eq]
  generalize (lg_sl ([.ref (mm 0), .int (nI t), .int (nI a)]) ++ List.replicate (3 - (lg_sl ([.ref (mm 0), .int (nI t), .int (nI a)])).length) Slot.unset).toArray = ls at hl ⊢
  have hl : lv_has ls 3 [(0, .ref (mm 0)), (1, .int (nI t)), (2, .int (nI a))] := hl
  refine lv_aload_n hx hb d_M_keyAt_0 rfl (lv_at hl 0 rfl) ?_
  refine lv_iload_n hx hb d_M_keyAt_1 rfl (lv_at hl 1 rfl) ?_
  refine z_callR (va_runV (C := "ValueTreesModel") (As := [.int (nI t)]) (rest := []) ⟨hx, hb, hml, hown, hts⟩ (c_M_isKeyed l D dT _ mm wd lf rt tc ty F sz Wk wz dg dc sh hM tb hO hT t (by omega)) ⟨callB_of 1 hts (gI gd_up gd_c q727) rfl rfl rfl (ht _ q10) (ht _ q724) hd_M_isKeyed ⟨Nat.le_of_ble_eq_true rfl, Nat.le_of_ble_eq_true rfl⟩, ht _ q726, ht _ qs35⟩ (z_preV hK (va_recv hK.1 hM.1 (ci := 10) (q0 := 0) rfl rfl)) rfl rfl hl.1 rfl (lv_room (Nat.le_of_ble_eq_true rfl)) d_M_keyAt_2 ⟨Nat.zero_le _, Nat.zero_le _⟩) (fun v2 hv1 => ?_)
  have hv1 : v2 = .int (if ¬ tW (tb t) = 12 then 1 else 0) := hv1
  rcases Classical.em (¬ tW (tb t) = 12) with hq3 | hq3
  · rw [if_pos hq3] at hv1
    subst hv1
    refine lv_if_eq (tgt := 14) hx hb d_M_keyAt_5 (by decide) (fun c4 => absurd c4 (by decide)) (fun _ => ?_)
    refine lv_iload_n hx hb d_M_keyAt_8 rfl (lv_at hl 2 rfl) ?_
    refine lv_iconst (v := 2) hx hb d_M_keyAt_9 (by decide) ?_
    refine lv_iadd hx hb d_M_keyAt_10 ?_
    rw [show (((nI a) + 2) : Int32) = nI (a + 2) from nI_add a 2]
    refine lv_goto (tgt := 15) hx hb d_M_keyAt_11 (by decide) ?_
    exact z_iretR hx hb hr hlocks d_M_keyAt_15 (by first | rw [if_neg hq3] | rw [if_pos (Classical.not_not.mp hq3)])
  · rw [if_neg hq3] at hv1
    subst hv1
    refine lv_if_eq (tgt := 14) hx hb d_M_keyAt_5 (by decide) (fun _ => ?_) (fun c5 => absurd c5 (by decide))
    refine lv_iload_n hx hb d_M_keyAt_14 rfl (lv_at hl 2 rfl) ?_
    exact z_iretR hx hb hr hlocks d_M_keyAt_15 (by first | rw [if_neg hq3] | rw [if_pos (Classical.not_not.mp hq3)])
abbrev b_M_rank : ByteArray := prog_12_method_66_code
abbrev y_M_rank : MethodName := ⟨"ValueTreesModel", "rank", "(I)I"⟩
abbrev w_M_rank : List Cond := .code y_M_rank b_M_rank 3 (Option.some .int) :: gt
theorem hd_M_rank : (y_M_rank).cls ≠ "java/lang/invoke/MethodHandle" ∧ (y_M_rank).cls ≠ "java/lang/invoke/VarHandle" ∧ (parseMethodDescriptor (y_M_rank).desc).map (fun d => d.parameters.length) = some 1 := by decide +kernel
theorem d_M_rank_0 : decode b_M_rank 0 = .ok (.aload_n 0, 1) := by decide +kernel
theorem d_M_rank_1 : decode b_M_rank 1 = .ok (.iload_n 1, 1) := by decide +kernel
theorem d_M_rank_2 : decode b_M_rank 2 = .ok (.iconst 1, 1) := by decide +kernel
theorem d_M_rank_3 : decode b_M_rank 3 = .ok (.iadd, 1) := by decide +kernel
theorem d_M_rank_4 : decode b_M_rank 4 = .ok (.invokevirtual 72, 3) := by decide +kernel
theorem d_M_rank_7 : decode b_M_rank 7 = .ok (.istore_n 2, 1) := by decide +kernel
theorem d_M_rank_8 : decode b_M_rank 8 = .ok (.iload_n 2, 1) := by decide +kernel
theorem d_M_rank_9 : decode b_M_rank 9 = .ok (.iconst 3, 1) := by decide +kernel
theorem d_M_rank_10 : decode b_M_rank 10 = .ok (.if_icmp .eq 14, 3) := by decide +kernel
theorem d_M_rank_13 : decode b_M_rank 13 = .ok (.iload_n 2, 1) := by decide +kernel
theorem d_M_rank_14 : decode b_M_rank 14 = .ok (.bipush 6, 2) := by decide +kernel
theorem d_M_rank_16 : decode b_M_rank 16 = .ok (.if_icmp .eq 8, 3) := by decide +kernel
theorem d_M_rank_19 : decode b_M_rank 19 = .ok (.iload_n 2, 1) := by decide +kernel
theorem d_M_rank_20 : decode b_M_rank 20 = .ok (.iconst 5, 1) := by decide +kernel
theorem d_M_rank_21 : decode b_M_rank 21 = .ok (.if_icmp .ne 7, 3) := by decide +kernel
theorem d_M_rank_24 : decode b_M_rank 24 = .ok (.iconst 0, 1) := by decide +kernel
theorem d_M_rank_25 : decode b_M_rank 25 = .ok (.goto 4, 3) := by decide +kernel
theorem d_M_rank_28 : decode b_M_rank 28 = .ok (.iconst 1, 1) := by decide +kernel
theorem d_M_rank_29 : decode b_M_rank 29 = .ok (.ireturn, 1) := by decide +kernel
set_option maxHeartbeats 4000000 in
set_option maxRecDepth 100000 in
theorem c_M_rank (l : Launch) (D : va_G) (dT : Nat → ClassId) (H : Heap) (mm : Nat → Nat) (wd lf rt : Nat → Int32) (tc : Nat) (ty : Nat → Int32) (F : Nat → Nat) (sz : Nat → Int32) (Wk : Nat → Nat) (wz : Nat) (dg : Nat → Nat) (dc : Nat) (sh : Nat → Nat) (hM : mAt D dT mm wd lf rt tc ty F sz Wk wz dg dc sh H) (hF : ∀ k, F k < 256) (a : Nat) (ha : a + 1 < 2560) : Met l y_M_rank w_M_rank ({ frames := 1, cells := 0, slots := 0, locals := 21 }) (z_P D dT [.ref (mm 0), .int (nI a)] H) (z_R (fun v => v = .int (if F (a + 1) = 3 ∨ F (a + 1) = 6 ∨ F (a + 1) = 5 then 0 else 1))) 0 0 (fun _ => False) := by
  refine Met.ofW (cc := b_M_rank) (maxL := 3) (ret := (Option.some .int)) (by decide) rfl ?_
  intro p e s m args below meth c s₁ B hml hv
  obtain ⟨rfl, rfl, hK⟩ := hv
  have hx := B.exec
  have hb := B.bytes
  have hr := B.returns
  have hts := atoms_spec (ws := w_M_rank) B.pre
  have ht : ∀ w9 ∈ gt, w9.before [.ref (mm 0), .int (nI a)].toArray s = true := fun w9 h => hts w9 (List.mem_cons_of_mem _ h)
  have hown : s.vm.findClass "ValueTreesModel" = some m.cls := findClass_of_methodNamed B.named
  have hlocks := B.notSynchronized
  have hl := lv_entry ([.ref (mm 0), .int (nI a)]) (n := 3) (Nat.le_of_ble_eq_true rfl)
  rw [lg_entry_eq]
  generalize (lg_sl ([.ref (mm 0), .int (nI a)]) ++ List.replicate (3 - (lg_sl ([.ref (mm 0), .int (nI a)])).length) Slot.unset).toArray = ls at hl ⊢
  have hl : lv_has ls 3 [(0, .ref (mm 0)), (1, .int (nI a))] := hl
  have hF1 := hF (a + 1)
  refine lv_aload_n hx hb d_M_rank_0 rfl (lv_at hl 0 rfl) ?_
  refine lv_iload_n hx hb d_M_rank_1 rfl (lv_at hl 1 rfl) ?_
  refine lv_iconst (v := 1) hx hb d_M_rank_2 (by decide) ?_
  refine lv_iadd hx hb d_M_rank_3 ?_
  rw [show (((nI a) + 1) : Int32) = nI (a + 1) from nI_add a 1]
  refine z_callR (va_runV (C := "ValueTreesModel") (As := [.int (nI (a + 1))]) (rest := []) ⟨hx, hb, hml, hown, hts⟩ (c_M_byteOf l D dT _ mm wd lf rt tc ty F sz Wk wz dg dc sh hM (a + 1) (by omega) (hF _)) ⟨callB_of 1 hts (gI gd_up gd_c q670) rfl rfl rfl (ht _ q10) (ht _ q667) hd_M_byteOf ⟨Nat.le_of_ble_eq_true rfl, Nat.le_of_ble_eq_true rfl⟩, ht _ q669, ht _ qs29⟩ (z_preV hK (va_recv hK.1 hM.1 (ci := 10) (q0 := 0) rfl rfl)) rfl rfl hl.1 rfl (lv_room (Nat.le_of_ble_eq_true rfl)) d_M_rank_4 ⟨Nat.zero_le _, Nat.zero_le _⟩) (fun v2 hv1 => ?_)
  subst hv1
  refine lv_istore_n (lv' := [(2, .int (nI (F (a + 1)))), (0, .ref (mm 0)), (1, .int (nI a))]) hx hb d_M_rank_7 rfl hl (by decide) rfl (fun ls hl => ?_)
  refine lv_iload_n hx hb d_M_rank_8 rfl (lv_at hl 0 rfl) ?_
  refine lv_iconst (v := 3) hx hb d_M_rank_9 (by decide) ?_
  refine lv_icmp_eq (tgt := 24) hx hb d_M_rank_10 (by decide) (fun c3 => ?_) (fun c3 => ?_)
  · have nc3 : (F (a + 1)) = 3 := (nI_eq (a := (F (a + 1))) (b := 3) (by omega) (by omega)).mp c3
    refine lv_iconst (v := 0) hx hb d_M_rank_24 (by decide) ?_
    refine lv_goto (tgt := 29) hx hb d_M_rank_25 (by decide) ?_
    exact z_iretR hx hb hr hlocks d_M_rank_29 (by first | rw [if_pos (by omega)] | rw [if_neg (by omega)])
  · have nc3 : ¬ (F (a + 1)) = 3 := fun h9 => c3 ((nI_eq (a := (F (a + 1))) (b := 3) (by omega) (by omega)).mpr h9)
    refine lv_iload_n hx hb d_M_rank_13 rfl (lv_at hl 0 rfl) ?_
    refine lv_bipush (v := 6) hx hb d_M_rank_14 (by decide) ?_
    refine lv_icmp_eq (tgt := 24) hx hb d_M_rank_16 (by decide) (fun c4 => ?_) (fun c4 => ?_)
    · have nc4 : (F (a + 1)) = 6 := (nI_eq (a := (F (a + 1))) (b := 6) (by omega) (by omega)).mp c4
      refine lv_iconst (v := 0) hx hb d_M_rank_24 (by decide) ?_
      refine lv_goto (tgt := 29) hx hb d_M_rank_25 (by decide) ?_
      exact z_iretR hx hb hr hlocks d_M_rank_29 (by first | rw [if_pos (by omega)] | rw [if_neg (by omega)])
    · have nc4 : ¬ (F (a + 1)) = 6 := fun h9 => c4 ((nI_eq (a := (F (a + 1))) (b := 6) (by omega) (by omega)).mpr h9)
      refine lv_iload_n hx hb d_M_rank_19 rfl (lv_at hl 0 rfl) ?_
      refine lv_iconst (v := 5) hx hb d_M_rank_20 (by decide) ?_
      refine lv_icmp_ne (tgt := 28) hx hb d_M_rank_21 (by decide) (fun c5 => ?_) (fun c5 => ?_)
      · have nc5 : ¬ (F (a + 1)) = 5 := fun h9 => c5 ((nI_eq (a := (F (a + 1))) (b := 5) (by omega) (by omega)).mpr h9)
        refine lv_iconst (v := 1) hx hb d_M_rank_28 (by decide) ?_
        exact z_iretR hx hb hr hlocks d_M_rank_29 (by first | rw [if_pos (by omega)] | rw [if_neg (by omega)])
      · have nc5 : (F (a + 1)) = 5 := (nI_eq (a := (F (a + 1))) (b := 5) (by omega) (by omega)).mp c5
        refine lv_iconst (v := 0) hx hb d_M_rank_24 (by decide) ?_
        refine lv_goto (tgt := 29) hx hb d_M_rank_25 (by decide) ?_
        exact z_iretR hx hb hr hlocks d_M_rank_29 (by first | rw [if_pos (by omega)] | rw [if_neg (by omega)])
