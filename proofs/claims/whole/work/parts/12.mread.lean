abbrev b_M_isType : ByteArray := prog_12_method_2_code
abbrev y_M_isType : MethodName := ⟨"ValueTreesModel", "isType", "(I)Z"⟩
abbrev w_M_isType : List Cond := .code y_M_isType b_M_isType 2 (Option.some .boolean) :: gt
theorem hd_M_isType : (y_M_isType).cls ≠ "java/lang/invoke/MethodHandle" ∧ (y_M_isType).cls ≠ "java/lang/invoke/VarHandle" ∧ (parseMethodDescriptor (y_M_isType).desc).map (fun d => d.parameters.length) = some 1 := by decide +kernel
theorem d_M_isType_0 : decode b_M_isType 0 = .ok (.iload_n 1, 1) := by decide +kernel
theorem d_M_isType_1 : decode b_M_isType 1 = .ok (.ifCond .lt 15, 3) := by decide +kernel
theorem d_M_isType_4 : decode b_M_isType 4 = .ok (.iload_n 1, 1) := by decide +kernel
theorem d_M_isType_5 : decode b_M_isType 5 = .ok (.aload_n 0, 1) := by decide +kernel
theorem d_M_isType_6 : decode b_M_isType 6 = .ok (.getfield 38, 3) := by decide +kernel
theorem d_M_isType_9 : decode b_M_isType 9 = .ok (.if_icmp .ge 7, 3) := by decide +kernel
theorem d_M_isType_12 : decode b_M_isType 12 = .ok (.iconst 1, 1) := by decide +kernel
theorem d_M_isType_13 : decode b_M_isType 13 = .ok (.goto 4, 3) := by decide +kernel
theorem d_M_isType_16 : decode b_M_isType 16 = .ok (.iconst 0, 1) := by decide +kernel
theorem d_M_isType_17 : decode b_M_isType 17 = .ok (.ireturn, 1) := by decide +kernel
set_option maxHeartbeats 4000000 in
set_option maxRecDepth 100000 in
theorem c_M_isType (l : Launch) (D : va_G) (dT : Nat → ClassId) (H : Heap) (mm : Nat → Nat) (wd lf rt : Nat → Int32) (tc : Nat) (ty : Nat → Int32) (F : Nat → Nat) (sz : Nat → Int32) (Wk : Nat → Nat) (wz : Nat) (dg : Nat → Nat) (dc : Nat) (sh : Nat → Nat) (hM : mAt D dT mm wd lf rt tc ty F sz Wk wz dg dc sh H) (t : Int32)  : Met l y_M_isType w_M_isType ({ frames := 0, cells := 0, slots := 0, locals := 0 }) (z_P D dT [.ref (mm 0), .int t] H) (z_R (fun v => v = .int (if 0 ≤ t ∧ t < nI tc then 1 else 0))) 0 0 (fun _ => False) := by
  refine Met.ofW (cc := b_M_isType) (maxL := 2) (ret := (Option.some .boolean)) (by decide) rfl ?_
  intro p e s m args below meth c s₁ B hml hv
  obtain ⟨rfl, rfl, hK⟩ := hv
  have hx := B.exec
  have hb := B.bytes
  have hr := B.returns
  have hts := atoms_spec (ws := w_M_isType) B.pre
  have ht : ∀ w9 ∈ gt, w9.before [.ref (mm 0), .int t].toArray s = true := fun w9 h => hts w9 (List.mem_cons_of_mem _ h)
  have hown : s.vm.findClass "ValueTreesModel" = some m.cls := findClass_of_methodNamed B.named
  have hlocks := B.notSynchronized
  have hl := lv_entry ([.ref (mm 0), .int t]) (n := 2) (Nat.le_of_ble_eq_true rfl)
  rw [lg_entry_eq]
  generalize (lg_sl ([.ref (mm 0), .int t]) ++ List.replicate (2 - (lg_sl ([.ref (mm 0), .int t])).length) Slot.unset).toArray = ls at hl ⊢
  have hl : lv_has ls 2 [(0, .ref (mm 0)), (1, .int t)] := hl
  refine lv_iload_n hx hb d_M_isType_0 rfl (lv_at hl 1 rfl) ?_
  refine lv_if_lt (tgt := 16) hx hb d_M_isType_1 (by decide) (fun c1 => ?_) (fun c1 => ?_)
  · refine lv_iconst (v := 0) hx hb d_M_isType_16 (by decide) ?_
    exact z_zretR hx hb hr hlocks d_M_isType_17 rfl (by repeat (first | rfl | rw [if_pos (by (revert c1; simp only [inR, isNum, isRw, isTr, hasV, Int32.lt_iff_toInt_lt, Int32.le_iff_toInt_le, ← Int32.toInt_inj, Int32.reduceToInt, z_m1, z_m2]; (try intros); omega))] | rw [if_neg (by (revert c1; simp only [inR, isNum, isRw, isTr, hasV, Int32.lt_iff_toInt_lt, Int32.le_iff_toInt_le, ← Int32.toInt_inj, Int32.reduceToInt, z_m1, z_m2]; (try intros); omega))]))
  · refine lv_iload_n hx hb d_M_isType_4 rfl (lv_at hl 1 rfl) ?_
    refine lv_aload_n hx hb d_M_isType_5 rfl (lv_at hl 0 rfl) ?_
    refine va_get (D := D) (ci := 10) (v := .int (nI tc)) (C := "ValueTreesModel") (T := T_M) (N := 12) hx hb ht in_M hown hK.1 hM.1 0 rfl rfl 3 (by decide) (ht _ q542) (fun _ h9 => h9) rfl d_M_isType_6 ?_
    refine lv_icmp_ge (tgt := 16) hx hb d_M_isType_9 (by decide) (fun c2 => ?_) (fun c2 => ?_)
    · refine lv_iconst (v := 0) hx hb d_M_isType_16 (by decide) ?_
      exact z_zretR hx hb hr hlocks d_M_isType_17 rfl (by repeat (first | rfl | rw [if_pos (by (revert c1 c2; simp only [inR, isNum, isRw, isTr, hasV, Int32.lt_iff_toInt_lt, Int32.le_iff_toInt_le, ← Int32.toInt_inj, Int32.reduceToInt, z_m1, z_m2]; (try intros); omega))] | rw [if_neg (by (revert c1 c2; simp only [inR, isNum, isRw, isTr, hasV, Int32.lt_iff_toInt_lt, Int32.le_iff_toInt_le, ← Int32.toInt_inj, Int32.reduceToInt, z_m1, z_m2]; (try intros); omega))]))
    · refine lv_iconst (v := 1) hx hb d_M_isType_12 (by decide) ?_
      refine lv_goto (tgt := 17) hx hb d_M_isType_13 (by decide) ?_
      exact z_zretR hx hb hr hlocks d_M_isType_17 rfl (by repeat (first | rfl | rw [if_pos (by (revert c1 c2; simp only [inR, isNum, isRw, isTr, hasV, Int32.lt_iff_toInt_lt, Int32.le_iff_toInt_le, ← Int32.toInt_inj, Int32.reduceToInt, z_m1, z_m2]; (try intros); omega))] | rw [if_neg (by (revert c1 c2; simp only [inR, isNum, isRw, isTr, hasV, Int32.lt_iff_toInt_lt, Int32.le_iff_toInt_le, ← Int32.toInt_inj, Int32.reduceToInt, z_m1, z_m2]; (try intros); omega))]))
abbrev b_M_byteOf : ByteArray := prog_12_method_18_code
abbrev y_M_byteOf : MethodName := ⟨"ValueTreesModel", "byteOf", "(I)I"⟩
abbrev w_M_byteOf : List Cond := .code y_M_byteOf b_M_byteOf 2 (Option.some .int) :: gt
theorem hd_M_byteOf : (y_M_byteOf).cls ≠ "java/lang/invoke/MethodHandle" ∧ (y_M_byteOf).cls ≠ "java/lang/invoke/VarHandle" ∧ (parseMethodDescriptor (y_M_byteOf).desc).map (fun d => d.parameters.length) = some 1 := by decide +kernel
theorem d_M_byteOf_0 : decode b_M_byteOf 0 = .ok (.aload_n 0, 1) := by decide +kernel
theorem d_M_byteOf_1 : decode b_M_byteOf 1 = .ok (.getfield 22, 3) := by decide +kernel
theorem d_M_byteOf_4 : decode b_M_byteOf 4 = .ok (.iload_n 1, 1) := by decide +kernel
theorem d_M_byteOf_5 : decode b_M_byteOf 5 = .ok (.baload, 1) := by decide +kernel
theorem d_M_byteOf_6 : decode b_M_byteOf 6 = .ok (.sipush 255, 3) := by decide +kernel
theorem d_M_byteOf_9 : decode b_M_byteOf 9 = .ok (.iand, 1) := by decide +kernel
theorem d_M_byteOf_10 : decode b_M_byteOf 10 = .ok (.ireturn, 1) := by decide +kernel
set_option maxHeartbeats 4000000 in
set_option maxRecDepth 100000 in
theorem c_M_byteOf (l : Launch) (D : va_G) (dT : Nat → ClassId) (H : Heap) (mm : Nat → Nat) (wd lf rt : Nat → Int32) (tc : Nat) (ty : Nat → Int32) (F : Nat → Nat) (sz : Nat → Int32) (Wk : Nat → Nat) (wz : Nat) (dg : Nat → Nat) (dc : Nat) (sh : Nat → Nat) (hM : mAt D dT mm wd lf rt tc ty F sz Wk wz dg dc sh H) (k : Nat) (hk : k < 2560) (hF : F k < 256) : Met l y_M_byteOf w_M_byteOf ({ frames := 0, cells := 0, slots := 0, locals := 0 }) (z_P D dT [.ref (mm 0), .int (nI k)] H) (z_R (fun v => v = .int (nI (F k)))) 0 0 (fun _ => False) := by
  refine Met.ofW (cc := b_M_byteOf) (maxL := 2) (ret := (Option.some .int)) (by decide) rfl ?_
  intro p e s m args below meth c s₁ B hml hv
  obtain ⟨rfl, rfl, hK⟩ := hv
  have hx := B.exec
  have hb := B.bytes
  have hr := B.returns
  have hts := atoms_spec (ws := w_M_byteOf) B.pre
  have ht : ∀ w9 ∈ gt, w9.before [.ref (mm 0), .int (nI k)].toArray s = true := fun w9 h => hts w9 (List.mem_cons_of_mem _ h)
  have hown : s.vm.findClass "ValueTreesModel" = some m.cls := findClass_of_methodNamed B.named
  have hlocks := B.notSynchronized
  have hl := lv_entry ([.ref (mm 0), .int (nI k)]) (n := 2) (Nat.le_of_ble_eq_true rfl)
  rw [lg_entry_eq]
  generalize (lg_sl ([.ref (mm 0), .int (nI k)]) ++ List.replicate (2 - (lg_sl ([.ref (mm 0), .int (nI k)])).length) Slot.unset).toArray = ls at hl ⊢
  have hl : lv_has ls 2 [(0, .ref (mm 0)), (1, .int (nI k))] := hl
  refine lv_aload_n hx hb d_M_byteOf_0 rfl (lv_at hl 0 rfl) ?_
  refine va_get (D := D) (ci := 10) (v := .ref (mm 5)) (C := "ValueTreesModel") (T := T_M) (N := 12) hx hb ht in_M hown hK.1 hM.1 0 rfl rfl 5 (by decide) (ht _ q544) (fun _ h9 => h9) rfl d_M_byteOf_1 ?_
  refine lv_iload_n hx hb d_M_byteOf_4 rfl (lv_at hl 1 rfl) ?_
  refine z_bald hx hb hK (hM.1 5 _ rfl) k rfl (by omega) (by decide) d_M_byteOf_5 ?_
  refine lv_sipush (v := 255) hx hb d_M_byteOf_6 (by decide) ?_
  refine lv_iand hx hb d_M_byteOf_9 ?_
  exact z_iretR hx hb hr hlocks d_M_byteOf_10 (by rw [by8_and hF])
abbrev b_M_digitAt : ByteArray := prog_12_method_21_code
abbrev y_M_digitAt : MethodName := ⟨"ValueTreesModel", "digitAt", "(I)I"⟩
abbrev w_M_digitAt : List Cond := .code y_M_digitAt b_M_digitAt 2 (Option.some .int) :: gt
theorem hd_M_digitAt : (y_M_digitAt).cls ≠ "java/lang/invoke/MethodHandle" ∧ (y_M_digitAt).cls ≠ "java/lang/invoke/VarHandle" ∧ (parseMethodDescriptor (y_M_digitAt).desc).map (fun d => d.parameters.length) = some 1 := by decide +kernel
theorem d_M_digitAt_0 : decode b_M_digitAt 0 = .ok (.iload_n 1, 1) := by decide +kernel
theorem d_M_digitAt_1 : decode b_M_digitAt 1 = .ok (.aload_n 0, 1) := by decide +kernel
theorem d_M_digitAt_2 : decode b_M_digitAt 2 = .ok (.getfield 85, 3) := by decide +kernel
theorem d_M_digitAt_5 : decode b_M_digitAt 5 = .ok (.if_icmp .ge 12, 3) := by decide +kernel
theorem d_M_digitAt_8 : decode b_M_digitAt 8 = .ok (.aload_n 0, 1) := by decide +kernel
theorem d_M_digitAt_9 : decode b_M_digitAt 9 = .ok (.getfield 32, 3) := by decide +kernel
theorem d_M_digitAt_12 : decode b_M_digitAt 12 = .ok (.iload_n 1, 1) := by decide +kernel
theorem d_M_digitAt_13 : decode b_M_digitAt 13 = .ok (.iaload, 1) := by decide +kernel
theorem d_M_digitAt_14 : decode b_M_digitAt 14 = .ok (.goto 4, 3) := by decide +kernel
theorem d_M_digitAt_17 : decode b_M_digitAt 17 = .ok (.iconst 0, 1) := by decide +kernel
theorem d_M_digitAt_18 : decode b_M_digitAt 18 = .ok (.ireturn, 1) := by decide +kernel
set_option maxHeartbeats 4000000 in
set_option maxRecDepth 100000 in
theorem c_M_digitAt (l : Launch) (D : va_G) (dT : Nat → ClassId) (H : Heap) (mm : Nat → Nat) (wd lf rt : Nat → Int32) (tc : Nat) (ty : Nat → Int32) (F : Nat → Nat) (sz : Nat → Int32) (Wk : Nat → Nat) (wz : Nat) (dg : Nat → Nat) (dc : Nat) (sh : Nat → Nat) (hM : mAt D dT mm wd lf rt tc ty F sz Wk wz dg dc sh H) (k : Nat) (hk : k < 2 ^ 31) (hd : dc ≤ 140) : Met l y_M_digitAt w_M_digitAt ({ frames := 0, cells := 0, slots := 0, locals := 0 }) (z_P D dT [.ref (mm 0), .int (nI k)] H) (z_R (fun v => v = .int (nI (if k < dc then dg k else 0)))) 0 0 (fun _ => False) := by
  refine Met.ofW (cc := b_M_digitAt) (maxL := 2) (ret := (Option.some .int)) (by decide) rfl ?_
  intro p e s m args below meth c s₁ B hml hv
  obtain ⟨rfl, rfl, hK⟩ := hv
  have hx := B.exec
  have hb := B.bytes
  have hr := B.returns
  have hts := atoms_spec (ws := w_M_digitAt) B.pre
  have ht : ∀ w9 ∈ gt, w9.before [.ref (mm 0), .int (nI k)].toArray s = true := fun w9 h => hts w9 (List.mem_cons_of_mem _ h)
  have hown : s.vm.findClass "ValueTreesModel" = some m.cls := findClass_of_methodNamed B.named
  have hlocks := B.notSynchronized
  have hl := lv_entry ([.ref (mm 0), .int (nI k)]) (n := 2) (Nat.le_of_ble_eq_true rfl)
  rw [lg_entry_eq]
  generalize (lg_sl ([.ref (mm 0), .int (nI k)]) ++ List.replicate (2 - (lg_sl ([.ref (mm 0), .int (nI k)])).length) Slot.unset).toArray = ls at hl ⊢
  have hl : lv_has ls 2 [(0, .ref (mm 0)), (1, .int (nI k))] := hl
  refine lv_iload_n hx hb d_M_digitAt_0 rfl (lv_at hl 1 rfl) ?_
  refine lv_aload_n hx hb d_M_digitAt_1 rfl (lv_at hl 0 rfl) ?_
  refine va_get (D := D) (ci := 10) (v := .int (nI dc)) (C := "ValueTreesModel") (T := T_M) (N := 12) hx hb ht in_M hown hK.1 hM.1 0 rfl rfl 10 (by decide) (ht _ q549) (fun _ h9 => h9) rfl d_M_digitAt_2 ?_
  refine lv_icmp_ge (tgt := 17) hx hb d_M_digitAt_5 (by decide) (fun c1 => ?_) (fun c1 => ?_)
  · refine lv_iconst (v := 0) hx hb d_M_digitAt_17 (by decide) ?_
    exact z_iretR hx hb hr hlocks d_M_digitAt_18 (by rw [if_neg (by have := c1; rw [nI_leI (by omega) (by omega)] at this; omega)]; rfl)
  · refine lv_aload_n hx hb d_M_digitAt_8 rfl (lv_at hl 0 rfl) ?_
    refine va_get (D := D) (ci := 10) (v := .ref (mm 8)) (C := "ValueTreesModel") (T := T_M) (N := 12) hx hb ht in_M hown hK.1 hM.1 0 rfl rfl 9 (by decide) (ht _ q548) (fun _ h9 => h9) rfl d_M_digitAt_9 ?_
    refine lv_iload_n hx hb d_M_digitAt_12 rfl (lv_at hl 1 rfl) ?_
    refine z_iald hx hb hK (hM.1 8 _ rfl) k rfl (by have := c1; rw [nI_leI (by omega) (by omega)] at this; omega) (by decide) d_M_digitAt_13 ?_
    refine lv_goto (tgt := 18) hx hb d_M_digitAt_14 (by decide) ?_
    exact z_iretR hx hb hr hlocks d_M_digitAt_18 (by rw [if_pos (by have := c1; rw [nI_leI (by omega) (by omega)] at this; omega)])
