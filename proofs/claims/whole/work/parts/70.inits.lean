abbrev b_Value_init : ByteArray := prog_9_method_1_code
abbrev y_Value_init : MethodName := ⟨"ValueTrees$Value", "<init>", "(II)V"⟩
abbrev w_Value_init : List Cond := .code y_Value_init b_Value_init 3 (Option.none : Option FieldType) :: gt
theorem hd_Value_init : (y_Value_init).cls ≠ "java/lang/invoke/MethodHandle" ∧ (y_Value_init).cls ≠ "java/lang/invoke/VarHandle" ∧ (parseMethodDescriptor (y_Value_init).desc).map (fun d => d.parameters.length) = some 2 := by decide +kernel
theorem d_Value_init_0 : decode b_Value_init 0 = .ok (.aload_n 0, 1) := by decide +kernel
theorem d_Value_init_1 : decode b_Value_init 1 = .ok (.invokespecial 1, 3) := by decide +kernel
theorem d_Value_init_4 : decode b_Value_init 4 = .ok (.aload_n 0, 1) := by decide +kernel
theorem d_Value_init_5 : decode b_Value_init 5 = .ok (.iload_n 1, 1) := by decide +kernel
theorem d_Value_init_6 : decode b_Value_init 6 = .ok (.putfield 7, 3) := by decide +kernel
theorem d_Value_init_9 : decode b_Value_init 9 = .ok (.aload_n 0, 1) := by decide +kernel
theorem d_Value_init_10 : decode b_Value_init 10 = .ok (.iload_n 2, 1) := by decide +kernel
theorem d_Value_init_11 : decode b_Value_init 11 = .ok (.putfield 13, 3) := by decide +kernel
theorem d_Value_init_14 : decode b_Value_init 14 = .ok (.return_, 1) := by decide +kernel
set_option maxHeartbeats 4000000 in
set_option maxRecDepth 100000 in
theorem c_Value_init (l : Launch) (D : va_G) (dT : Nat → ClassId) (H : Heap) (a ci : Nat) (h1 : 2 ≤ ci) (h2 : ci ≤ 7) (x y : Int32) (fs : List Value) (oa : va_at D cls (a, .inr (ci, .int x :: .int y :: fs)) H) (t n : Int32) : Met l y_Value_init w_Value_init ({ frames := 1, cells := 0, slots := 0, locals := 20 }) (z_P D dT [.ref a, .int t, .int n] H) (z_Q (fun q => q = a) (fun v H1 => v = none ∧ va_at D cls (a, .inr (ci, .int t :: .int n :: fs)) H1)) 0 0 (fun q => q = a) := by
  refine Met.ofW (cc := b_Value_init) (maxL := 3) (ret := (Option.none : Option FieldType)) (by decide) rfl ?_
  intro p e s m args below meth c s₁ B hml hv
  obtain ⟨rfl, rfl, hK⟩ := hv
  have hx := B.exec
  have hb := B.bytes
  have hr := B.returns
  have hts := atoms_spec (ws := w_Value_init) B.pre
  have ht : ∀ w9 ∈ gt, w9.before [.ref a, .int t, .int n].toArray s = true := fun w9 h => hts w9 (List.mem_cons_of_mem _ h)
  have hown : s.vm.findClass "ValueTrees$Value" = some m.cls := findClass_of_methodNamed B.named
  have hlocks := B.notSynchronized
  have hin : meth.name = "<init>" := (name_of_methodNamed B.named B.method).1
  have hS : va_S (fun q => q = a) s.heap s.heap [] := va_S.rf
  have hl := lv_entry ([.ref a, .int t, .int n]) (n := 3) (Nat.le_of_ble_eq_true rfl)
  rw [lg_entry_eq]
  generalize (lg_sl ([.ref a, .int t, .int n]) ++ List.replicate (3 - (lg_sl ([.ref a, .int t, .int n])).length) Slot.unset).toArray = ls at hl ⊢
  have hl : lv_has ls 3 [(0, .ref a), (1, .int t), (2, .int n)] := hl
  have hAa : (fun q => q = a) a := rfl
  refine lv_aload_n hx hb d_Value_init_0 rfl (lv_at hl 0 rfl) ?_
  refine W.objInit hx hb hown (ht _ q223) (ht _ q27) (ht _ q28) rfl (hl.1.trans hml.symm) rfl d_Value_init_1 (Nat.le_of_ble_eq_true rfl) (Nat.le_of_ble_eq_true rfl) ?_
  refine W.eq (g2 := F0 m 4 ls []) rfl ?_
  refine lv_aload_n hx hb d_Value_init_4 rfl (lv_at hl 0 rfl) ?_
  refine lv_iload_n hx hb d_Value_init_5 rfl (lv_at hl 1 rfl) ?_
  refine z_vput hx hb ht hown hin hK hS hAa h1 h2 oa 0 (by decide) (ht _ q230) d_Value_init_6 (fun H locs oa hz1 ho2 hS => ?_)
  have oa : va_at D cls (a, .inr (ci, .int t :: .int y :: fs)) H := oa
  refine lv_aload_n hx hb d_Value_init_9 rfl (lv_at hl 0 rfl) ?_
  refine lv_iload_n hx hb d_Value_init_10 rfl (lv_at hl 2 rfl) ?_
  refine z_vput hx hb ht hown hin hK hS hAa h1 h2 oa 1 (by decide) (ht _ q239) d_Value_init_11 (fun H locs oa hz3 ho4 hS => ?_)
  have oa : va_at D cls (a, .inr (ci, .int t :: .int n :: fs)) H := oa
  exact z_vretQ hx hb hr hlocks d_Value_init_14 hS (Nat.le_of_ble_eq_true rfl) (Nat.le_of_ble_eq_true rfl) ⟨rfl, oa⟩
abbrev b_Type_init : ByteArray := prog_8_method_1_code
abbrev y_Type_init : MethodName := ⟨"ValueTrees$Type", "<init>", "(IIIII)V"⟩
abbrev w_Type_init : List Cond := .code y_Type_init b_Type_init 6 (Option.none : Option FieldType) :: gt
theorem hd_Type_init : (y_Type_init).cls ≠ "java/lang/invoke/MethodHandle" ∧ (y_Type_init).cls ≠ "java/lang/invoke/VarHandle" ∧ (parseMethodDescriptor (y_Type_init).desc).map (fun d => d.parameters.length) = some 5 := by decide +kernel
theorem d_Type_init_0 : decode b_Type_init 0 = .ok (.aload_n 0, 1) := by decide +kernel
theorem d_Type_init_1 : decode b_Type_init 1 = .ok (.invokespecial 1, 3) := by decide +kernel
theorem d_Type_init_4 : decode b_Type_init 4 = .ok (.aload_n 0, 1) := by decide +kernel
theorem d_Type_init_5 : decode b_Type_init 5 = .ok (.iload_n 1, 1) := by decide +kernel
theorem d_Type_init_6 : decode b_Type_init 6 = .ok (.putfield 7, 3) := by decide +kernel
theorem d_Type_init_9 : decode b_Type_init 9 = .ok (.aload_n 0, 1) := by decide +kernel
theorem d_Type_init_10 : decode b_Type_init 10 = .ok (.iload_n 2, 1) := by decide +kernel
theorem d_Type_init_11 : decode b_Type_init 11 = .ok (.putfield 13, 3) := by decide +kernel
theorem d_Type_init_14 : decode b_Type_init 14 = .ok (.aload_n 0, 1) := by decide +kernel
theorem d_Type_init_15 : decode b_Type_init 15 = .ok (.iload_n 3, 1) := by decide +kernel
theorem d_Type_init_16 : decode b_Type_init 16 = .ok (.putfield 16, 3) := by decide +kernel
theorem d_Type_init_19 : decode b_Type_init 19 = .ok (.aload_n 0, 1) := by decide +kernel
theorem d_Type_init_20 : decode b_Type_init 20 = .ok (.iload 4, 2) := by decide +kernel
theorem d_Type_init_22 : decode b_Type_init 22 = .ok (.putfield 19, 3) := by decide +kernel
theorem d_Type_init_25 : decode b_Type_init 25 = .ok (.aload_n 0, 1) := by decide +kernel
theorem d_Type_init_26 : decode b_Type_init 26 = .ok (.iload 5, 2) := by decide +kernel
theorem d_Type_init_28 : decode b_Type_init 28 = .ok (.putfield 22, 3) := by decide +kernel
theorem d_Type_init_31 : decode b_Type_init 31 = .ok (.return_, 1) := by decide +kernel
set_option maxHeartbeats 4000000 in
set_option maxRecDepth 100000 in
theorem c_Type_init (l : Launch) (D : va_G) (dT : Nat → ClassId) (H : Heap) (a : Nat) (oa : va_at D cls (a, .inr (1, [.int 0, .int 0, .int 0, .int 0, .int 0])) H) (wd9 l9 r9 p9 m9 : Int32) : Met l y_Type_init w_Type_init ({ frames := 1, cells := 0, slots := 0, locals := 20 }) (z_P D dT [.ref a, .int wd9, .int l9, .int r9, .int p9, .int m9] H) (z_Q (fun q => q = a) (fun v H1 => v = none ∧ va_at D cls (a, .inr (1, [.int wd9, .int l9, .int r9, .int p9, .int m9])) H1)) 0 0 (fun q => q = a) := by
  refine Met.ofW (cc := b_Type_init) (maxL := 6) (ret := (Option.none : Option FieldType)) (by decide) rfl ?_
  intro p e s m args below meth c s₁ B hml hv
  obtain ⟨rfl, rfl, hK⟩ := hv
  have hx := B.exec
  have hb := B.bytes
  have hr := B.returns
  have hts := atoms_spec (ws := w_Type_init) B.pre
  have ht : ∀ w9 ∈ gt, w9.before [.ref a, .int wd9, .int l9, .int r9, .int p9, .int m9].toArray s = true := fun w9 h => hts w9 (List.mem_cons_of_mem _ h)
  have hown : s.vm.findClass "ValueTrees$Type" = some m.cls := findClass_of_methodNamed B.named
  have hlocks := B.notSynchronized
  have hin : meth.name = "<init>" := (name_of_methodNamed B.named B.method).1
  have hS : va_S (fun q => q = a) s.heap s.heap [] := va_S.rf
  have hl := lv_entry ([.ref a, .int wd9, .int l9, .int r9, .int p9, .int m9]) (n := 6) (Nat.le_of_ble_eq_true rfl)
  rw [lg_entry_eq]
  generalize (lg_sl ([.ref a, .int wd9, .int l9, .int r9, .int p9, .int m9]) ++ List.replicate (6 - (lg_sl ([.ref a, .int wd9, .int l9, .int r9, .int p9, .int m9])).length) Slot.unset).toArray = ls at hl ⊢
  have hl : lv_has ls 6 [(0, .ref a), (1, .int wd9), (2, .int l9), (3, .int r9), (4, .int p9), (5, .int m9)] := hl
  have hAa : (fun q => q = a) a := rfl
  refine lv_aload_n hx hb d_Type_init_0 rfl (lv_at hl 0 rfl) ?_
  refine W.objInit hx hb hown (ht _ q63) (ht _ q27) (ht _ q28) rfl (hl.1.trans hml.symm) rfl d_Type_init_1 (Nat.le_of_ble_eq_true rfl) (Nat.le_of_ble_eq_true rfl) ?_
  refine W.eq (g2 := F0 m 4 ls []) rfl ?_
  refine lv_aload_n hx hb d_Type_init_4 rfl (lv_at hl 0 rfl) ?_
  refine lv_iload_n hx hb d_Type_init_5 rfl (lv_at hl 1 rfl) ?_
  refine z_putF (ci := 1) (C := "ValueTrees$Type") (T := T_Type) (N := 5) hx hb ht in_Type ty_Type tyk_Type nm_Type hown hK hS hAa oa rfl 0 (by decide) (ht _ q64) (fun _ h9 => h9) rfl hin rfl rfl rfl (Nat.le_of_ble_eq_true rfl) d_Type_init_6 (fun H locs oa hz1 ho2 hS => ?_)
  have oa : va_at D cls (a, .inr (1, [.int wd9, .int 0, .int 0, .int 0, .int 0])) H := oa
  refine lv_aload_n hx hb d_Type_init_9 rfl (lv_at hl 0 rfl) ?_
  refine lv_iload_n hx hb d_Type_init_10 rfl (lv_at hl 2 rfl) ?_
  refine z_putF (ci := 1) (C := "ValueTrees$Type") (T := T_Type) (N := 5) hx hb ht in_Type ty_Type tyk_Type nm_Type hown hK hS hAa oa rfl 1 (by decide) (ht _ q66) (fun _ h9 => h9) rfl hin rfl rfl rfl (Nat.le_of_ble_eq_true rfl) d_Type_init_11 (fun H locs oa hz3 ho4 hS => ?_)
  have oa : va_at D cls (a, .inr (1, [.int wd9, .int l9, .int 0, .int 0, .int 0])) H := oa
  refine lv_aload_n hx hb d_Type_init_14 rfl (lv_at hl 0 rfl) ?_
  refine lv_iload_n hx hb d_Type_init_15 rfl (lv_at hl 3 rfl) ?_
  refine z_putF (ci := 1) (C := "ValueTrees$Type") (T := T_Type) (N := 5) hx hb ht in_Type ty_Type tyk_Type nm_Type hown hK hS hAa oa rfl 2 (by decide) (ht _ q68) (fun _ h9 => h9) rfl hin rfl rfl rfl (Nat.le_of_ble_eq_true rfl) d_Type_init_16 (fun H locs oa hz5 ho6 hS => ?_)
  have oa : va_at D cls (a, .inr (1, [.int wd9, .int l9, .int r9, .int 0, .int 0])) H := oa
  refine lv_aload_n hx hb d_Type_init_19 rfl (lv_at hl 0 rfl) ?_
  refine lv_iload hx hb d_Type_init_20 (lv_at hl 4 rfl) ?_
  refine z_putF (ci := 1) (C := "ValueTrees$Type") (T := T_Type) (N := 5) hx hb ht in_Type ty_Type tyk_Type nm_Type hown hK hS hAa oa rfl 3 (by decide) (ht _ q70) (fun _ h9 => h9) rfl hin rfl rfl rfl (Nat.le_of_ble_eq_true rfl) d_Type_init_22 (fun H locs oa hz7 ho8 hS => ?_)
  have oa : va_at D cls (a, .inr (1, [.int wd9, .int l9, .int r9, .int p9, .int 0])) H := oa
  refine lv_aload_n hx hb d_Type_init_25 rfl (lv_at hl 0 rfl) ?_
  refine lv_iload hx hb d_Type_init_26 (lv_at hl 5 rfl) ?_
  refine z_putF (ci := 1) (C := "ValueTrees$Type") (T := T_Type) (N := 5) hx hb ht in_Type ty_Type tyk_Type nm_Type hown hK hS hAa oa rfl 4 (by decide) (ht _ q72) (fun _ h9 => h9) rfl hin rfl rfl rfl (Nat.le_of_ble_eq_true rfl) d_Type_init_28 (fun H locs oa hz9 ho10 hS => ?_)
  have oa : va_at D cls (a, .inr (1, [.int wd9, .int l9, .int r9, .int p9, .int m9])) H := oa
  exact z_vretQ hx hb hr hlocks d_Type_init_31 hS (Nat.le_of_ble_eq_true rfl) (Nat.le_of_ble_eq_true rfl) ⟨rfl, oa⟩
abbrev b_Whole_init : ByteArray := prog_10_method_1_code
abbrev y_Whole_init : MethodName := ⟨"ValueTrees$Whole", "<init>", "(IZI[I)V"⟩
abbrev w_Whole_init : List Cond := .code y_Whole_init b_Whole_init 5 (Option.none : Option FieldType) :: gt
theorem hd_Whole_init : (y_Whole_init).cls ≠ "java/lang/invoke/MethodHandle" ∧ (y_Whole_init).cls ≠ "java/lang/invoke/VarHandle" ∧ (parseMethodDescriptor (y_Whole_init).desc).map (fun d => d.parameters.length) = some 4 := by decide +kernel
theorem d_Whole_init_0 : decode b_Whole_init 0 = .ok (.aload_n 0, 1) := by decide +kernel
theorem d_Whole_init_1 : decode b_Whole_init 1 = .ok (.iload_n 1, 1) := by decide +kernel
theorem d_Whole_init_2 : decode b_Whole_init 2 = .ok (.iload_n 3, 1) := by decide +kernel
theorem d_Whole_init_3 : decode b_Whole_init 3 = .ok (.invokestatic 3, 3) := by decide +kernel
theorem d_Whole_init_6 : decode b_Whole_init 6 = .ok (.invokespecial 9, 3) := by decide +kernel
theorem d_Whole_init_9 : decode b_Whole_init 9 = .ok (.aload_n 0, 1) := by decide +kernel
theorem d_Whole_init_10 : decode b_Whole_init 10 = .ok (.iload_n 2, 1) := by decide +kernel
theorem d_Whole_init_11 : decode b_Whole_init 11 = .ok (.putfield 15, 3) := by decide +kernel
theorem d_Whole_init_14 : decode b_Whole_init 14 = .ok (.aload_n 0, 1) := by decide +kernel
theorem d_Whole_init_15 : decode b_Whole_init 15 = .ok (.iload_n 3, 1) := by decide +kernel
theorem d_Whole_init_16 : decode b_Whole_init 16 = .ok (.putfield 19, 3) := by decide +kernel
theorem d_Whole_init_19 : decode b_Whole_init 19 = .ok (.aload_n 0, 1) := by decide +kernel
theorem d_Whole_init_20 : decode b_Whole_init 20 = .ok (.aload 4, 2) := by decide +kernel
theorem d_Whole_init_22 : decode b_Whole_init 22 = .ok (.putfield 23, 3) := by decide +kernel
theorem d_Whole_init_25 : decode b_Whole_init 25 = .ok (.return_, 1) := by decide +kernel
set_option maxHeartbeats 4000000 in
set_option maxRecDepth 100000 in
theorem c_Whole_init (l : Launch) (D : va_G) (dT : Nat → ClassId) (H : Heap) (a : Nat) (oa : va_at D cls (a, .inr (2, [.int 0, .int 0, .int 0, .int 0, .null])) H) (t b n : Int32) (d : Nat) (hb01 : narrow .boolean (.int b) = .int b) (hb02 : fits .boolean (.int b) = true) : Met l y_Whole_init w_Whole_init ({ frames := 2, cells := 0, slots := 0, locals := 42 }) (z_P D dT [.ref a, .int t, .int b, .int n, .ref d] H) (z_Q (fun q => q = a) (fun v H1 => v = none ∧ va_at D cls (a, .inr (2, [.int t, .int (2 + n / 7), .int b, .int n, .ref d])) H1)) 0 0 (fun q => q = a) := by
  refine Met.ofW (cc := b_Whole_init) (maxL := 5) (ret := (Option.none : Option FieldType)) (by decide) rfl ?_
  intro p e s m args below meth c s₁ B hml hv
  obtain ⟨rfl, rfl, hK⟩ := hv
  have hx := B.exec
  have hb := B.bytes
  have hr := B.returns
  have hts := atoms_spec (ws := w_Whole_init) B.pre
  have ht : ∀ w9 ∈ gt, w9.before [.ref a, .int t, .int b, .int n, .ref d].toArray s = true := fun w9 h => hts w9 (List.mem_cons_of_mem _ h)
  have hown : s.vm.findClass "ValueTrees$Whole" = some m.cls := findClass_of_methodNamed B.named
  have hlocks := B.notSynchronized
  have hin : meth.name = "<init>" := (name_of_methodNamed B.named B.method).1
  have hS : va_S (fun q => q = a) s.heap s.heap [] := va_S.rf
  have hl := lv_entry ([.ref a, .int t, .int b, .int n, .ref d]) (n := 5) (Nat.le_of_ble_eq_true rfl)
  rw [lg_entry_eq]
  generalize (lg_sl ([.ref a, .int t, .int b, .int n, .ref d]) ++ List.replicate (5 - (lg_sl ([.ref a, .int t, .int b, .int n, .ref d])).length) Slot.unset).toArray = ls at hl ⊢
  have hl : lv_has ls 5 [(0, .ref a), (1, .int t), (2, .int b), (3, .int n), (4, .ref d)] := hl
  have hAa : (fun q => q = a) a := rfl
  refine lv_aload_n hx hb d_Whole_init_0 rfl (lv_at hl 0 rfl) ?_
  refine lv_iload_n hx hb d_Whole_init_1 rfl (lv_at hl 1 rfl) ?_
  refine lv_iload_n hx hb d_Whole_init_2 rfl (lv_at hl 3 rfl) ?_
  refine z_callR (va_runS (As := [.int n]) (rest := [.int t, .ref a]) ⟨hx, hb, hml, hown, hts⟩ (c_Whole_lengthOf l D dT _ n) ⟨callB_of 1 hts (gI gd_up gd_c q219) rfl rfl rfl (ht _ q14) (ht _ q217) hd_Whole_lengthOf ⟨Nat.le_of_ble_eq_true rfl, Nat.le_of_ble_eq_true rfl⟩, ht _ q218⟩ (z_preS hK) rfl rfl hl.1 rfl (lv_room (Nat.le_of_ble_eq_true rfl)) d_Whole_init_3 ⟨Nat.zero_le _, Nat.zero_le _⟩) (fun v2 hv1 => ?_)
  subst hv1
  refine z_callQ (va_runI (As := [.int t, .int (2 + n / 7)]) (rest := []) ⟨hx, hb, hml, hown, hts⟩ (c_Value_init l D dT _ a 2 (by decide) (by decide) 0 0 [.int 0, .int 0, .null] oa t (2 + n / 7)) ⟨callB_of 2 hts (gI gd_up gd_c q222) rfl rfl rfl (ht _ q13) (ht _ q220) hd_Value_init ⟨Nat.le_of_ble_eq_true rfl, Nat.le_of_ble_eq_true rfl⟩, rfl, ht _ q221⟩ (z_preS hK) rfl rfl hl.1 rfl (lv_room (Nat.le_of_ble_eq_true rfl)) d_Whole_init_6 ⟨(Nat.le_of_ble_eq_true rfl), (Nat.le_of_ble_eq_true rfl)⟩) hS (fun _ h9 => h9) (fun v4 H locs hv3 hz5 hf6 hS => ?_)
  obtain ⟨rfl, oa⟩ := hv3
  have oa : va_at D cls (a, .inr (2, [.int t, .int (2 + n / 7), .int 0, .int 0, .null])) H := oa
  refine W.eq (g2 := F0 m 9 ls []) rfl ?_
  refine lv_aload_n hx hb d_Whole_init_9 rfl (lv_at hl 0 rfl) ?_
  refine lv_iload_n hx hb d_Whole_init_10 rfl (lv_at hl 2 rfl) ?_
  refine z_putF (ci := 2) (C := "ValueTrees$Whole") (T := T_Whole) (N := 5) hx hb ht in_Whole ty_Whole tyk_Whole nm_Whole hown hK hS hAa oa rfl 2 (by decide) (ht _ q224) (fun _ h9 => h9) rfl hin rfl hb01 hb02 (Nat.le_of_ble_eq_true rfl) d_Whole_init_11 (fun H locs oa hz7 ho8 hS => ?_)
  have oa : va_at D cls (a, .inr (2, [.int t, .int (2 + n / 7), .int b, .int 0, .null])) H := oa
  refine lv_aload_n hx hb d_Whole_init_14 rfl (lv_at hl 0 rfl) ?_
  refine lv_iload_n hx hb d_Whole_init_15 rfl (lv_at hl 3 rfl) ?_
  refine z_putF (ci := 2) (C := "ValueTrees$Whole") (T := T_Whole) (N := 5) hx hb ht in_Whole ty_Whole tyk_Whole nm_Whole hown hK hS hAa oa rfl 3 (by decide) (ht _ q226) (fun _ h9 => h9) rfl hin rfl rfl rfl (Nat.le_of_ble_eq_true rfl) d_Whole_init_16 (fun H locs oa hz9 ho10 hS => ?_)
  have oa : va_at D cls (a, .inr (2, [.int t, .int (2 + n / 7), .int b, .int n, .null])) H := oa
  refine lv_aload_n hx hb d_Whole_init_19 rfl (lv_at hl 0 rfl) ?_
  refine lv_aload hx hb d_Whole_init_20 (lv_at hl 4 rfl) ?_
  refine z_putF (ci := 2) (C := "ValueTrees$Whole") (T := T_Whole) (N := 5) hx hb ht in_Whole ty_Whole tyk_Whole nm_Whole hown hK hS hAa oa rfl 4 (by decide) (ht _ q228) (fun _ h9 => h9) rfl hin rfl rfl rfl (Nat.le_of_ble_eq_true rfl) d_Whole_init_22 (fun H locs oa hz11 ho12 hS => ?_)
  have oa : va_at D cls (a, .inr (2, [.int t, .int (2 + n / 7), .int b, .int n, .ref d])) H := oa
  exact z_vretQ hx hb hr hlocks d_Whole_init_25 hS (Nat.le_of_ble_eq_true rfl) (Nat.le_of_ble_eq_true rfl) ⟨rfl, oa⟩
abbrev b_Row_init : ByteArray := prog_6_method_1_code
abbrev y_Row_init : MethodName := ⟨"ValueTrees$Row", "<init>", "(IJI)V"⟩
abbrev w_Row_init : List Cond := .code y_Row_init b_Row_init 5 (Option.none : Option FieldType) :: gt
theorem hd_Row_init : (y_Row_init).cls ≠ "java/lang/invoke/MethodHandle" ∧ (y_Row_init).cls ≠ "java/lang/invoke/VarHandle" ∧ (parseMethodDescriptor (y_Row_init).desc).map (fun d => d.parameters.length) = some 3 := by decide +kernel
theorem d_Row_init_0 : decode b_Row_init 0 = .ok (.aload_n 0, 1) := by decide +kernel
theorem d_Row_init_1 : decode b_Row_init 1 = .ok (.iload_n 1, 1) := by decide +kernel
theorem d_Row_init_2 : decode b_Row_init 2 = .ok (.iconst 5, 1) := by decide +kernel
theorem d_Row_init_3 : decode b_Row_init 3 = .ok (.iload 4, 2) := by decide +kernel
theorem d_Row_init_5 : decode b_Row_init 5 = .ok (.iadd, 1) := by decide +kernel
theorem d_Row_init_6 : decode b_Row_init 6 = .ok (.invokespecial 3, 3) := by decide +kernel
theorem d_Row_init_9 : decode b_Row_init 9 = .ok (.aload_n 0, 1) := by decide +kernel
theorem d_Row_init_10 : decode b_Row_init 10 = .ok (.lload_n 2, 1) := by decide +kernel
theorem d_Row_init_11 : decode b_Row_init 11 = .ok (.putfield 9, 3) := by decide +kernel
theorem d_Row_init_14 : decode b_Row_init 14 = .ok (.aload_n 0, 1) := by decide +kernel
theorem d_Row_init_15 : decode b_Row_init 15 = .ok (.iload 4, 2) := by decide +kernel
theorem d_Row_init_17 : decode b_Row_init 17 = .ok (.putfield 15, 3) := by decide +kernel
theorem d_Row_init_20 : decode b_Row_init 20 = .ok (.return_, 1) := by decide +kernel
set_option maxHeartbeats 4000000 in
set_option maxRecDepth 100000 in
theorem c_Row_init (l : Launch) (D : va_G) (dT : Nat → ClassId) (H : Heap) (a : Nat) (oa : va_at D cls (a, .inr (3, [.int 0, .int 0, .long 0, .int 0])) H) (t : Int32) (x : Int64) (n : Int32) : Met l y_Row_init w_Row_init ({ frames := 2, cells := 0, slots := 0, locals := 42 }) (z_P D dT [.ref a, .int t, .long x, .int n] H) (z_Q (fun q => q = a) (fun v H1 => v = none ∧ va_at D cls (a, .inr (3, [.int t, .int (5 + n), .long x, .int n])) H1)) 0 0 (fun q => q = a) := by
  refine Met.ofW (cc := b_Row_init) (maxL := 5) (ret := (Option.none : Option FieldType)) (by decide) rfl ?_
  intro p e s m args below meth c s₁ B hml hv
  obtain ⟨rfl, rfl, hK⟩ := hv
  have hx := B.exec
  have hb := B.bytes
  have hr := B.returns
  have hts := atoms_spec (ws := w_Row_init) B.pre
  have ht : ∀ w9 ∈ gt, w9.before [.ref a, .int t, .long x, .int n].toArray s = true := fun w9 h => hts w9 (List.mem_cons_of_mem _ h)
  have hown : s.vm.findClass "ValueTrees$Row" = some m.cls := findClass_of_methodNamed B.named
  have hlocks := B.notSynchronized
  have hin : meth.name = "<init>" := (name_of_methodNamed B.named B.method).1
  have hS : va_S (fun q => q = a) s.heap s.heap [] := va_S.rf
  have hl := lv_entry ([.ref a, .int t, .long x, .int n]) (n := 5) (Nat.le_of_ble_eq_true rfl)
  rw [lg_entry_eq]
  generalize (lg_sl ([.ref a, .int t, .long x, .int n]) ++ List.replicate (5 - (lg_sl ([.ref a, .int t, .long x, .int n])).length) Slot.unset).toArray = ls at hl ⊢
  have hl : lv_has ls 5 [(0, .ref a), (1, .int t), (2, .long x), (4, .int n)] := hl
  have hAa : (fun q => q = a) a := rfl
  refine lv_aload_n hx hb d_Row_init_0 rfl (lv_at hl 0 rfl) ?_
  refine lv_iload_n hx hb d_Row_init_1 rfl (lv_at hl 1 rfl) ?_
  refine lv_iconst (v := 5) hx hb d_Row_init_2 (by decide) ?_
  refine lv_iload hx hb d_Row_init_3 (lv_at hl 3 rfl) ?_
  refine lv_iadd hx hb d_Row_init_5 ?_
  refine z_callQ (va_runI (As := [.int t, .int (5 + n)]) (rest := []) ⟨hx, hb, hml, hown, hts⟩ (c_Value_init l D dT _ a 3 (by decide) (by decide) 0 0 [.long 0, .int 0] oa t (5 + n)) ⟨callB_of 2 hts (gI gd_up gd_c q222) rfl rfl rfl (ht _ q13) (ht _ q288) hd_Value_init ⟨Nat.le_of_ble_eq_true rfl, Nat.le_of_ble_eq_true rfl⟩, rfl, ht _ q221⟩ (z_preS hK) rfl rfl hl.1 rfl (lv_room (Nat.le_of_ble_eq_true rfl)) d_Row_init_6 ⟨(Nat.le_of_ble_eq_true rfl), (Nat.le_of_ble_eq_true rfl)⟩) hS (fun _ h9 => h9) (fun v2 H locs hv1 hz3 hf4 hS => ?_)
  obtain ⟨rfl, oa⟩ := hv1
  have oa : va_at D cls (a, .inr (3, [.int t, .int (5 + n), .long 0, .int 0])) H := oa
  refine W.eq (g2 := F0 m 9 ls []) rfl ?_
  refine lv_aload_n hx hb d_Row_init_9 rfl (lv_at hl 0 rfl) ?_
  refine lv_lload_n hx hb d_Row_init_10 rfl (lv_at hl 2 rfl) ?_
  refine z_putF (ci := 3) (C := "ValueTrees$Row") (T := T_Row) (N := 4) hx hb ht in_Row ty_Row tyk_Row nm_Row hown hK hS hAa oa rfl 2 (by decide) (ht _ q289) (fun _ h9 => h9) rfl hin rfl rfl rfl (Nat.le_of_ble_eq_true rfl) d_Row_init_11 (fun H locs oa hz5 ho6 hS => ?_)
  have oa : va_at D cls (a, .inr (3, [.int t, .int (5 + n), .long x, .int 0])) H := oa
  refine lv_aload_n hx hb d_Row_init_14 rfl (lv_at hl 0 rfl) ?_
  refine lv_iload hx hb d_Row_init_15 (lv_at hl 3 rfl) ?_
  refine z_putF (ci := 3) (C := "ValueTrees$Row") (T := T_Row) (N := 4) hx hb ht in_Row ty_Row tyk_Row nm_Row hown hK hS hAa oa rfl 3 (by decide) (ht _ q290) (fun _ h9 => h9) rfl hin rfl rfl rfl (Nat.le_of_ble_eq_true rfl) d_Row_init_17 (fun H locs oa hz7 ho8 hS => ?_)
  have oa : va_at D cls (a, .inr (3, [.int t, .int (5 + n), .long x, .int n])) H := oa
  exact z_vretQ hx hb hr hlocks d_Row_init_20 hS (Nat.le_of_ble_eq_true rfl) (Nat.le_of_ble_eq_true rfl) ⟨rfl, oa⟩
abbrev b_Choice_init : ByteArray := prog_3_method_1_code
abbrev y_Choice_init : MethodName := ⟨"ValueTrees$Choice", "<init>", "(IILValueTrees$Value;)V"⟩
abbrev w_Choice_init : List Cond := .code y_Choice_init b_Choice_init 4 (Option.none : Option FieldType) :: gt
theorem hd_Choice_init : (y_Choice_init).cls ≠ "java/lang/invoke/MethodHandle" ∧ (y_Choice_init).cls ≠ "java/lang/invoke/VarHandle" ∧ (parseMethodDescriptor (y_Choice_init).desc).map (fun d => d.parameters.length) = some 3 := by decide +kernel
theorem d_Choice_init_0 : decode b_Choice_init 0 = .ok (.aload_n 0, 1) := by decide +kernel
theorem d_Choice_init_1 : decode b_Choice_init 1 = .ok (.iload_n 1, 1) := by decide +kernel
theorem d_Choice_init_2 : decode b_Choice_init 2 = .ok (.aload_n 3, 1) := by decide +kernel
theorem d_Choice_init_3 : decode b_Choice_init 3 = .ok (.ifnonnull 7, 3) := by decide +kernel
theorem d_Choice_init_6 : decode b_Choice_init 6 = .ok (.iconst 2, 1) := by decide +kernel
theorem d_Choice_init_7 : decode b_Choice_init 7 = .ok (.goto 9, 3) := by decide +kernel
theorem d_Choice_init_10 : decode b_Choice_init 10 = .ok (.iconst 2, 1) := by decide +kernel
theorem d_Choice_init_11 : decode b_Choice_init 11 = .ok (.aload_n 3, 1) := by decide +kernel
theorem d_Choice_init_12 : decode b_Choice_init 12 = .ok (.getfield 3, 3) := by decide +kernel
theorem d_Choice_init_15 : decode b_Choice_init 15 = .ok (.iadd, 1) := by decide +kernel
theorem d_Choice_init_16 : decode b_Choice_init 16 = .ok (.invokespecial 9, 3) := by decide +kernel
theorem d_Choice_init_19 : decode b_Choice_init 19 = .ok (.aload_n 0, 1) := by decide +kernel
theorem d_Choice_init_20 : decode b_Choice_init 20 = .ok (.iload_n 2, 1) := by decide +kernel
theorem d_Choice_init_21 : decode b_Choice_init 21 = .ok (.putfield 13, 3) := by decide +kernel
theorem d_Choice_init_24 : decode b_Choice_init 24 = .ok (.aload_n 0, 1) := by decide +kernel
theorem d_Choice_init_25 : decode b_Choice_init 25 = .ok (.aload_n 3, 1) := by decide +kernel
theorem d_Choice_init_26 : decode b_Choice_init 26 = .ok (.putfield 18, 3) := by decide +kernel
theorem d_Choice_init_29 : decode b_Choice_init 29 = .ok (.return_, 1) := by decide +kernel
set_option maxHeartbeats 4000000 in
set_option maxRecDepth 100000 in
theorem c_Choice_init_n (l : Launch) (D : va_G) (dT : Nat → ClassId) (H : Heap) (a : Nat) (oa : va_at D cls (a, .inr (4, [.int 0, .int 0, .int 0, .null])) H) (t sd9 : Int32) : Met l y_Choice_init w_Choice_init ({ frames := 2, cells := 0, slots := 0, locals := 42 }) (z_P D dT [.ref a, .int t, .int sd9, .null] H) (z_Q (fun q => q = a) (fun v H1 => v = none ∧ va_at D cls (a, .inr (4, [.int t, .int 2, .int sd9, .null])) H1)) 0 0 (fun q => q = a) := by
  refine Met.ofW (cc := b_Choice_init) (maxL := 4) (ret := (Option.none : Option FieldType)) (by decide) rfl ?_
  intro p e s m args below meth c s₁ B hml hv
  obtain ⟨rfl, rfl, hK⟩ := hv
  have hx := B.exec
  have hb := B.bytes
  have hr := B.returns
  have hts := atoms_spec (ws := w_Choice_init) B.pre
  have ht : ∀ w9 ∈ gt, w9.before [.ref a, .int t, .int sd9, .null].toArray s = true := fun w9 h => hts w9 (List.mem_cons_of_mem _ h)
  have hown : s.vm.findClass "ValueTrees$Choice" = some m.cls := findClass_of_methodNamed B.named
  have hlocks := B.notSynchronized
  have hin : meth.name = "<init>" := (name_of_methodNamed B.named B.method).1
  have hS : va_S (fun q => q = a) s.heap s.heap [] := va_S.rf
  have hl := lv_entry ([.ref a, .int t, .int sd9, .null]) (n := 4) (Nat.le_of_ble_eq_true rfl)
  rw [lg_entry_eq]
  generalize (lg_sl ([.ref a, .int t, .int sd9, .null]) ++ List.replicate (4 - (lg_sl ([.ref a, .int t, .int sd9, .null])).length) Slot.unset).toArray = ls at hl ⊢
  have hl : lv_has ls 4 [(0, .ref a), (1, .int t), (2, .int sd9), (3, .null)] := hl
  have hAa : (fun q => q = a) a := rfl
  refine lv_aload_n hx hb d_Choice_init_0 rfl (lv_at hl 0 rfl) ?_
  refine lv_iload_n hx hb d_Choice_init_1 rfl (lv_at hl 1 rfl) ?_
  refine lv_aload_nN hx hb d_Choice_init_2 rfl (lv_at hl 3 rfl) ?_
  refine lv_ifnonnullN hx hb d_Choice_init_3 ?_
  refine lv_iconst (v := 2) hx hb d_Choice_init_6 (by decide) ?_
  refine lv_goto (tgt := 16) hx hb d_Choice_init_7 (by decide) ?_
  refine z_callQ (va_runI (As := [.int t, .int 2]) (rest := []) ⟨hx, hb, hml, hown, hts⟩ (c_Value_init l D dT _ a 4 (by decide) (by decide) 0 0 [.int 0, .null] oa t 2) ⟨callB_of 2 hts (gI gd_up gd_c q222) rfl rfl rfl (ht _ q13) (ht _ q308) hd_Value_init ⟨Nat.le_of_ble_eq_true rfl, Nat.le_of_ble_eq_true rfl⟩, rfl, ht _ q221⟩ (z_preS hK) rfl rfl hl.1 rfl (lv_room (Nat.le_of_ble_eq_true rfl)) d_Choice_init_16 ⟨(Nat.le_of_ble_eq_true rfl), (Nat.le_of_ble_eq_true rfl)⟩) hS (fun _ h9 => h9) (fun v2 H locs hv1 hz3 hf4 hS => ?_)
  obtain ⟨rfl, oa⟩ := hv1
  have oa : va_at D cls (a, .inr (4, [.int t, .int 2, .int 0, .null])) H := oa
  refine W.eq (g2 := F0 m 19 ls []) rfl ?_
  refine lv_aload_n hx hb d_Choice_init_19 rfl (lv_at hl 0 rfl) ?_
  refine lv_iload_n hx hb d_Choice_init_20 rfl (lv_at hl 2 rfl) ?_
  refine z_putF (ci := 4) (C := "ValueTrees$Choice") (T := T_Choice) (N := 4) hx hb ht in_Choice ty_Choice tyk_Choice nm_Choice hown hK hS hAa oa rfl 2 (by decide) (ht _ q309) (fun _ h9 => h9) rfl hin rfl rfl rfl (Nat.le_of_ble_eq_true rfl) d_Choice_init_21 (fun H locs oa hz5 ho6 hS => ?_)
  have oa : va_at D cls (a, .inr (4, [.int t, .int 2, .int sd9, .null])) H := oa
  refine lv_aload_n hx hb d_Choice_init_24 rfl (lv_at hl 0 rfl) ?_
  refine lv_aload_nN hx hb d_Choice_init_25 rfl (lv_at hl 3 rfl) ?_
  refine z_putF (ci := 4) (C := "ValueTrees$Choice") (T := T_Choice) (N := 4) hx hb ht in_Choice ty_Choice tyk_Choice nm_Choice hown hK hS hAa oa rfl 3 (by decide) (ht _ q311) (fun _ h9 => h9) rfl hin rfl rfl rfl (Nat.le_of_ble_eq_true rfl) d_Choice_init_26 (fun H locs oa hz7 ho8 hS => ?_)
  have oa : va_at D cls (a, .inr (4, [.int t, .int 2, .int sd9, .null])) H := oa
  exact z_vretQ hx hb hr hlocks d_Choice_init_29 hS (Nat.le_of_ble_eq_true rfl) (Nat.le_of_ble_eq_true rfl) ⟨rfl, oa⟩
set_option maxHeartbeats 4000000 in
set_option maxRecDepth 100000 in
theorem c_Choice_init_r (l : Launch) (D : va_G) (dT : Nat → ClassId) (H : Heap) (a : Nat) (oa : va_at D cls (a, .inr (4, [.int 0, .int 0, .int 0, .null])) H) (t sd9 n tt : Int32) (b : Nat) (hvb : vh D b tt n H) : Met l y_Choice_init w_Choice_init ({ frames := 2, cells := 0, slots := 0, locals := 42 }) (z_P D dT [.ref a, .int t, .int sd9, .ref b] H) (z_Q (fun q => q = a) (fun v H1 => v = none ∧ va_at D cls (a, .inr (4, [.int t, .int (2 + n), .int sd9, .ref b])) H1)) 0 0 (fun q => q = a) := by
  refine Met.ofW (cc := b_Choice_init) (maxL := 4) (ret := (Option.none : Option FieldType)) (by decide) rfl ?_
  intro p e s m args below meth c s₁ B hml hv
  obtain ⟨rfl, rfl, hK⟩ := hv
  have hx := B.exec
  have hb := B.bytes
  have hr := B.returns
  have hts := atoms_spec (ws := w_Choice_init) B.pre
  have ht : ∀ w9 ∈ gt, w9.before [.ref a, .int t, .int sd9, .ref b].toArray s = true := fun w9 h => hts w9 (List.mem_cons_of_mem _ h)
  have hown : s.vm.findClass "ValueTrees$Choice" = some m.cls := findClass_of_methodNamed B.named
  have hlocks := B.notSynchronized
  have hin : meth.name = "<init>" := (name_of_methodNamed B.named B.method).1
  have hS : va_S (fun q => q = a) s.heap s.heap [] := va_S.rf
  have hl := lv_entry ([.ref a, .int t, .int sd9, .ref b]) (n := 4) (Nat.le_of_ble_eq_true rfl)
  rw [lg_entry_eq]
  generalize (lg_sl ([.ref a, .int t, .int sd9, .ref b]) ++ List.replicate (4 - (lg_sl ([.ref a, .int t, .int sd9, .ref b])).length) Slot.unset).toArray = ls at hl ⊢
  have hl : lv_has ls 4 [(0, .ref a), (1, .int t), (2, .int sd9), (3, .ref b)] := hl
  have hAa : (fun q => q = a) a := rfl
  refine lv_aload_n hx hb d_Choice_init_0 rfl (lv_at hl 0 rfl) ?_
  refine lv_iload_n hx hb d_Choice_init_1 rfl (lv_at hl 1 rfl) ?_
  refine lv_aload_n hx hb d_Choice_init_2 rfl (lv_at hl 3 rfl) ?_
  refine lv_ifnonnull (tgt := 10) hx hb d_Choice_init_3 (by decide) ?_
  refine lv_iconst (v := 2) hx hb d_Choice_init_10 (by decide) ?_
  refine lv_aload_n hx hb d_Choice_init_11 rfl (lv_at hl 3 rfl) ?_
  refine z_vlen hx hb ht hown hK hvb (ht _ q240) d_Choice_init_12 ?_
  refine lv_iadd hx hb d_Choice_init_15 ?_
  refine z_callQ (va_runI (As := [.int t, .int (2 + n)]) (rest := []) ⟨hx, hb, hml, hown, hts⟩ (c_Value_init l D dT _ a 4 (by decide) (by decide) 0 0 [.int 0, .null] oa t (2 + n)) ⟨callB_of 2 hts (gI gd_up gd_c q222) rfl rfl rfl (ht _ q13) (ht _ q308) hd_Value_init ⟨Nat.le_of_ble_eq_true rfl, Nat.le_of_ble_eq_true rfl⟩, rfl, ht _ q221⟩ (z_preS hK) rfl rfl hl.1 rfl (lv_room (Nat.le_of_ble_eq_true rfl)) d_Choice_init_16 ⟨(Nat.le_of_ble_eq_true rfl), (Nat.le_of_ble_eq_true rfl)⟩) hS (fun _ h9 => h9) (fun v2 H locs hv1 hz3 hf4 hS => ?_)
  obtain ⟨rfl, oa⟩ := hv1
  have oa : va_at D cls (a, .inr (4, [.int t, .int (2 + n), .int 0, .null])) H := oa
  refine W.eq (g2 := F0 m 19 ls []) rfl ?_
  refine lv_aload_n hx hb d_Choice_init_19 rfl (lv_at hl 0 rfl) ?_
  refine lv_iload_n hx hb d_Choice_init_20 rfl (lv_at hl 2 rfl) ?_
  refine z_putF (ci := 4) (C := "ValueTrees$Choice") (T := T_Choice) (N := 4) hx hb ht in_Choice ty_Choice tyk_Choice nm_Choice hown hK hS hAa oa rfl 2 (by decide) (ht _ q309) (fun _ h9 => h9) rfl hin rfl rfl rfl (Nat.le_of_ble_eq_true rfl) d_Choice_init_21 (fun H locs oa hz5 ho6 hS => ?_)
  have oa : va_at D cls (a, .inr (4, [.int t, .int (2 + n), .int sd9, .null])) H := oa
  refine lv_aload_n hx hb d_Choice_init_24 rfl (lv_at hl 0 rfl) ?_
  refine lv_aload_n hx hb d_Choice_init_25 rfl (lv_at hl 3 rfl) ?_
  refine z_putF (ci := 4) (C := "ValueTrees$Choice") (T := T_Choice) (N := 4) hx hb ht in_Choice ty_Choice tyk_Choice nm_Choice hown hK hS hAa oa rfl 3 (by decide) (ht _ q311) (fun _ h9 => h9) rfl hin rfl rfl rfl (Nat.le_of_ble_eq_true rfl) d_Choice_init_26 (fun H locs oa hz7 ho8 hS => ?_)
  have oa : va_at D cls (a, .inr (4, [.int t, .int (2 + n), .int sd9, .ref b])) H := oa
  exact z_vretQ hx hb hr hlocks d_Choice_init_29 hS (Nat.le_of_ble_eq_true rfl) (Nat.le_of_ble_eq_true rfl) ⟨rfl, oa⟩
abbrev b_Couple_lengthOf : ByteArray := prog_4_method_2_code
abbrev y_Couple_lengthOf : MethodName := ⟨"ValueTrees$Couple", "lengthOf", "(LValueTrees$Value;LValueTrees$Value;)I"⟩
abbrev w_Couple_lengthOf : List Cond := .code y_Couple_lengthOf b_Couple_lengthOf 2 (Option.some .int) :: gt
theorem hd_Couple_lengthOf : (y_Couple_lengthOf).cls ≠ "java/lang/invoke/MethodHandle" ∧ (y_Couple_lengthOf).cls ≠ "java/lang/invoke/VarHandle" ∧ (parseMethodDescriptor (y_Couple_lengthOf).desc).map (fun d => d.parameters.length) = some 2 := by decide +kernel
theorem d_Couple_lengthOf_0 : decode b_Couple_lengthOf 0 = .ok (.iconst 2, 1) := by decide +kernel
theorem d_Couple_lengthOf_1 : decode b_Couple_lengthOf 1 = .ok (.aload_n 0, 1) := by decide +kernel
theorem d_Couple_lengthOf_2 : decode b_Couple_lengthOf 2 = .ok (.getfield 22, 3) := by decide +kernel
theorem d_Couple_lengthOf_5 : decode b_Couple_lengthOf 5 = .ok (.iadd, 1) := by decide +kernel
theorem d_Couple_lengthOf_6 : decode b_Couple_lengthOf 6 = .ok (.aload_n 1, 1) := by decide +kernel
theorem d_Couple_lengthOf_7 : decode b_Couple_lengthOf 7 = .ok (.getfield 22, 3) := by decide +kernel
theorem d_Couple_lengthOf_10 : decode b_Couple_lengthOf 10 = .ok (.iadd, 1) := by decide +kernel
theorem d_Couple_lengthOf_11 : decode b_Couple_lengthOf 11 = .ok (.ireturn, 1) := by decide +kernel
set_option maxHeartbeats 4000000 in
set_option maxRecDepth 100000 in
theorem c_Couple_lengthOf (l : Launch) (D : va_G) (dT : Nat → ClassId) (H : Heap) (b d : Nat) (tt n tu k : Int32) (hvb : vh D b tt n H) (hvd : vh D d tu k H) : Met l y_Couple_lengthOf w_Couple_lengthOf ({ frames := 0, cells := 0, slots := 0, locals := 0 }) (z_P D dT [.ref b, .ref d] H) (z_R (fun v => v = .int (2 + n + k))) 0 0 (fun _ => False) := by
  refine Met.ofW (cc := b_Couple_lengthOf) (maxL := 2) (ret := (Option.some .int)) (by decide) rfl ?_
  intro p e s m args below meth c s₁ B hml hv
  obtain ⟨rfl, rfl, hK⟩ := hv
  have hx := B.exec
  have hb := B.bytes
  have hr := B.returns
  have hts := atoms_spec (ws := w_Couple_lengthOf) B.pre
  have ht : ∀ w9 ∈ gt, w9.before [.ref b, .ref d].toArray s = true := fun w9 h => hts w9 (List.mem_cons_of_mem _ h)
  have hown : s.vm.findClass "ValueTrees$Couple" = some m.cls := findClass_of_methodNamed B.named
  have hlocks := B.notSynchronized
  have hl := lv_entry ([.ref b, .ref d]) (n := 2) (Nat.le_of_ble_eq_true rfl)
  rw [lg_entry_eq]
  generalize (lg_sl ([.ref b, .ref d]) ++ List.replicate (2 - (lg_sl ([.ref b, .ref d])).length) Slot.unset).toArray = ls at hl ⊢
  have hl : lv_has ls 2 [(0, .ref b), (1, .ref d)] := hl
  refine lv_iconst (v := 2) hx hb d_Couple_lengthOf_0 (by decide) ?_
  refine lv_aload_n hx hb d_Couple_lengthOf_1 rfl (lv_at hl 0 rfl) ?_
  refine z_vlen hx hb ht hown hK hvb (ht _ q242) d_Couple_lengthOf_2 ?_
  refine lv_iadd hx hb d_Couple_lengthOf_5 ?_
  refine lv_aload_n hx hb d_Couple_lengthOf_6 rfl (lv_at hl 1 rfl) ?_
  refine z_vlen hx hb ht hown hK hvd (ht _ q242) d_Couple_lengthOf_7 ?_
  refine lv_iadd hx hb d_Couple_lengthOf_10 ?_
  exact z_iretR hx hb hr hlocks d_Couple_lengthOf_11 rfl
abbrev b_Couple_init : ByteArray := prog_4_method_1_code
abbrev y_Couple_init : MethodName := ⟨"ValueTrees$Couple", "<init>", "(ILValueTrees$Value;LValueTrees$Value;)V"⟩
abbrev w_Couple_init : List Cond := .code y_Couple_init b_Couple_init 4 (Option.none : Option FieldType) :: gt
theorem hd_Couple_init : (y_Couple_init).cls ≠ "java/lang/invoke/MethodHandle" ∧ (y_Couple_init).cls ≠ "java/lang/invoke/VarHandle" ∧ (parseMethodDescriptor (y_Couple_init).desc).map (fun d => d.parameters.length) = some 3 := by decide +kernel
theorem d_Couple_init_0 : decode b_Couple_init 0 = .ok (.aload_n 0, 1) := by decide +kernel
theorem d_Couple_init_1 : decode b_Couple_init 1 = .ok (.iload_n 1, 1) := by decide +kernel
theorem d_Couple_init_2 : decode b_Couple_init 2 = .ok (.aload_n 2, 1) := by decide +kernel
theorem d_Couple_init_3 : decode b_Couple_init 3 = .ok (.aload_n 3, 1) := by decide +kernel
theorem d_Couple_init_4 : decode b_Couple_init 4 = .ok (.invokestatic 3, 3) := by decide +kernel
theorem d_Couple_init_7 : decode b_Couple_init 7 = .ok (.invokespecial 9, 3) := by decide +kernel
theorem d_Couple_init_10 : decode b_Couple_init 10 = .ok (.aload_n 0, 1) := by decide +kernel
theorem d_Couple_init_11 : decode b_Couple_init 11 = .ok (.aload_n 2, 1) := by decide +kernel
theorem d_Couple_init_12 : decode b_Couple_init 12 = .ok (.putfield 15, 3) := by decide +kernel
theorem d_Couple_init_15 : decode b_Couple_init 15 = .ok (.aload_n 0, 1) := by decide +kernel
theorem d_Couple_init_16 : decode b_Couple_init 16 = .ok (.aload_n 3, 1) := by decide +kernel
theorem d_Couple_init_17 : decode b_Couple_init 17 = .ok (.putfield 19, 3) := by decide +kernel
theorem d_Couple_init_20 : decode b_Couple_init 20 = .ok (.return_, 1) := by decide +kernel
set_option maxHeartbeats 4000000 in
set_option maxRecDepth 100000 in
theorem c_Couple_init (l : Launch) (D : va_G) (dT : Nat → ClassId) (H : Heap) (a : Nat) (oa : va_at D cls (a, .inr (5, [.int 0, .int 0, .null, .null])) H) (t : Int32) (b d : Nat) (tt n tu k : Int32) (hvb : vh D b tt n H) (hvd : vh D d tu k H) : Met l y_Couple_init w_Couple_init ({ frames := 2, cells := 0, slots := 0, locals := 42 }) (z_P D dT [.ref a, .int t, .ref b, .ref d] H) (z_Q (fun q => q = a) (fun v H1 => v = none ∧ va_at D cls (a, .inr (5, [.int t, .int (2 + n + k), .ref b, .ref d])) H1)) 0 0 (fun q => q = a) := by
  refine Met.ofW (cc := b_Couple_init) (maxL := 4) (ret := (Option.none : Option FieldType)) (by decide) rfl ?_
  intro p e s m args below meth c s₁ B hml hv
  obtain ⟨rfl, rfl, hK⟩ := hv
  have hx := B.exec
  have hb := B.bytes
  have hr := B.returns
  have hts := atoms_spec (ws := w_Couple_init) B.pre
  have ht : ∀ w9 ∈ gt, w9.before [.ref a, .int t, .ref b, .ref d].toArray s = true := fun w9 h => hts w9 (List.mem_cons_of_mem _ h)
  have hown : s.vm.findClass "ValueTrees$Couple" = some m.cls := findClass_of_methodNamed B.named
  have hlocks := B.notSynchronized
  have hin : meth.name = "<init>" := (name_of_methodNamed B.named B.method).1
  have hS : va_S (fun q => q = a) s.heap s.heap [] := va_S.rf
  have hl := lv_entry ([.ref a, .int t, .ref b, .ref d]) (n := 4) (Nat.le_of_ble_eq_true rfl)
  rw [lg_entry_eq]
  generalize (lg_sl ([.ref a, .int t, .ref b, .ref d]) ++ List.replicate (4 - (lg_sl ([.ref a, .int t, .ref b, .ref d])).length) Slot.unset).toArray = ls at hl ⊢
  have hl : lv_has ls 4 [(0, .ref a), (1, .int t), (2, .ref b), (3, .ref d)] := hl
  have hAa : (fun q => q = a) a := rfl
  refine lv_aload_n hx hb d_Couple_init_0 rfl (lv_at hl 0 rfl) ?_
  refine lv_iload_n hx hb d_Couple_init_1 rfl (lv_at hl 1 rfl) ?_
  refine lv_aload_n hx hb d_Couple_init_2 rfl (lv_at hl 2 rfl) ?_
  refine lv_aload_n hx hb d_Couple_init_3 rfl (lv_at hl 3 rfl) ?_
  refine z_callR (va_runS (As := [.ref b, .ref d]) (rest := [.int t, .ref a]) ⟨hx, hb, hml, hown, hts⟩ (c_Couple_lengthOf l D dT _ b d tt n tu k hvb hvd) ⟨callB_of 2 hts (gI gd_up gd_c q386) rfl rfl rfl (ht _ q19) (ht _ q392) hd_Couple_lengthOf ⟨Nat.le_of_ble_eq_true rfl, Nat.le_of_ble_eq_true rfl⟩, ht _ q385⟩ (z_preS hK) rfl rfl hl.1 rfl (lv_room (Nat.le_of_ble_eq_true rfl)) d_Couple_init_4 ⟨Nat.zero_le _, Nat.zero_le _⟩) (fun v2 hv1 => ?_)
  subst hv1
  refine z_callQ (va_runI (As := [.int t, .int (2 + n + k)]) (rest := []) ⟨hx, hb, hml, hown, hts⟩ (c_Value_init l D dT _ a 5 (by decide) (by decide) 0 0 [.null, .null] oa t (2 + n + k)) ⟨callB_of 2 hts (gI gd_up gd_c q222) rfl rfl rfl (ht _ q13) (ht _ q393) hd_Value_init ⟨Nat.le_of_ble_eq_true rfl, Nat.le_of_ble_eq_true rfl⟩, rfl, ht _ q221⟩ (z_preS hK) rfl rfl hl.1 rfl (lv_room (Nat.le_of_ble_eq_true rfl)) d_Couple_init_7 ⟨(Nat.le_of_ble_eq_true rfl), (Nat.le_of_ble_eq_true rfl)⟩) hS (fun _ h9 => h9) (fun v4 H locs hv3 hz5 hf6 hS => ?_)
  obtain ⟨rfl, oa⟩ := hv3
  have oa : va_at D cls (a, .inr (5, [.int t, .int (2 + n + k), .null, .null])) H := oa
  refine W.eq (g2 := F0 m 10 ls []) rfl ?_
  refine lv_aload_n hx hb d_Couple_init_10 rfl (lv_at hl 0 rfl) ?_
  refine lv_aload_n hx hb d_Couple_init_11 rfl (lv_at hl 2 rfl) ?_
  refine z_putF (ci := 5) (C := "ValueTrees$Couple") (T := T_Couple) (N := 4) hx hb ht in_Couple ty_Couple tyk_Couple nm_Couple hown hK hS hAa oa rfl 2 (by decide) (ht _ q394) (fun _ h9 => h9) rfl hin rfl rfl rfl (Nat.le_of_ble_eq_true rfl) d_Couple_init_12 (fun H locs oa hz7 ho8 hS => ?_)
  have oa : va_at D cls (a, .inr (5, [.int t, .int (2 + n + k), .ref b, .null])) H := oa
  refine lv_aload_n hx hb d_Couple_init_15 rfl (lv_at hl 0 rfl) ?_
  refine lv_aload_n hx hb d_Couple_init_16 rfl (lv_at hl 3 rfl) ?_
  refine z_putF (ci := 5) (C := "ValueTrees$Couple") (T := T_Couple) (N := 4) hx hb ht in_Couple ty_Couple tyk_Couple nm_Couple hown hK hS hAa oa rfl 3 (by decide) (ht _ q396) (fun _ h9 => h9) rfl hin rfl rfl rfl (Nat.le_of_ble_eq_true rfl) d_Couple_init_17 (fun H locs oa hz9 ho10 hS => ?_)
  have oa : va_at D cls (a, .inr (5, [.int t, .int (2 + n + k), .ref b, .ref d])) H := oa
  exact z_vretQ hx hb hr hlocks d_Couple_init_20 hS (Nat.le_of_ble_eq_true rfl) (Nat.le_of_ble_eq_true rfl) ⟨rfl, oa⟩
abbrev b_Chain_init1 : ByteArray := prog_2_method_1_code
abbrev y_Chain_init1 : MethodName := ⟨"ValueTrees$Chain", "<init>", "(I)V"⟩
abbrev w_Chain_init1 : List Cond := .code y_Chain_init1 b_Chain_init1 2 (Option.none : Option FieldType) :: gt
theorem hd_Chain_init1 : (y_Chain_init1).cls ≠ "java/lang/invoke/MethodHandle" ∧ (y_Chain_init1).cls ≠ "java/lang/invoke/VarHandle" ∧ (parseMethodDescriptor (y_Chain_init1).desc).map (fun d => d.parameters.length) = some 1 := by decide +kernel
theorem d_Chain_init1_0 : decode b_Chain_init1 0 = .ok (.aload_n 0, 1) := by decide +kernel
theorem d_Chain_init1_1 : decode b_Chain_init1 1 = .ok (.iload_n 1, 1) := by decide +kernel
theorem d_Chain_init1_2 : decode b_Chain_init1 2 = .ok (.iconst 5, 1) := by decide +kernel
theorem d_Chain_init1_3 : decode b_Chain_init1 3 = .ok (.invokespecial 3, 3) := by decide +kernel
theorem d_Chain_init1_6 : decode b_Chain_init1 6 = .ok (.aload_n 0, 1) := by decide +kernel
theorem d_Chain_init1_7 : decode b_Chain_init1 7 = .ok (.aconst_null, 1) := by decide +kernel
theorem d_Chain_init1_8 : decode b_Chain_init1 8 = .ok (.putfield 9, 3) := by decide +kernel
theorem d_Chain_init1_11 : decode b_Chain_init1 11 = .ok (.aload_n 0, 1) := by decide +kernel
theorem d_Chain_init1_12 : decode b_Chain_init1 12 = .ok (.aconst_null, 1) := by decide +kernel
theorem d_Chain_init1_13 : decode b_Chain_init1 13 = .ok (.putfield 15, 3) := by decide +kernel
theorem d_Chain_init1_16 : decode b_Chain_init1 16 = .ok (.aload_n 0, 1) := by decide +kernel
theorem d_Chain_init1_17 : decode b_Chain_init1 17 = .ok (.iconst 0, 1) := by decide +kernel
theorem d_Chain_init1_18 : decode b_Chain_init1 18 = .ok (.putfield 19, 3) := by decide +kernel
theorem d_Chain_init1_21 : decode b_Chain_init1 21 = .ok (.return_, 1) := by decide +kernel
set_option maxHeartbeats 4000000 in
set_option maxRecDepth 100000 in
theorem c_Chain_init1 (l : Launch) (D : va_G) (dT : Nat → ClassId) (H : Heap) (a : Nat) (oa : va_at D cls (a, .inr (6, [.int 0, .int 0, .null, .null, .int 0])) H) (t : Int32) : Met l y_Chain_init1 w_Chain_init1 ({ frames := 2, cells := 0, slots := 0, locals := 42 }) (z_P D dT [.ref a, .int t] H) (z_Q (fun q => q = a) (fun v H1 => v = none ∧ va_at D cls (a, .inr (6, [.int t, .int 5, .null, .null, .int 0])) H1)) 0 0 (fun q => q = a) := by
  refine Met.ofW (cc := b_Chain_init1) (maxL := 2) (ret := (Option.none : Option FieldType)) (by decide) rfl ?_
  intro p e s m args below meth c s₁ B hml hv
  obtain ⟨rfl, rfl, hK⟩ := hv
  have hx := B.exec
  have hb := B.bytes
  have hr := B.returns
  have hts := atoms_spec (ws := w_Chain_init1) B.pre
  have ht : ∀ w9 ∈ gt, w9.before [.ref a, .int t].toArray s = true := fun w9 h => hts w9 (List.mem_cons_of_mem _ h)
  have hown : s.vm.findClass "ValueTrees$Chain" = some m.cls := findClass_of_methodNamed B.named
  have hlocks := B.notSynchronized
  have hin : meth.name = "<init>" := (name_of_methodNamed B.named B.method).1
  have hS : va_S (fun q => q = a) s.heap s.heap [] := va_S.rf
  have hl := lv_entry ([.ref a, .int t]) (n := 2) (Nat.le_of_ble_eq_true rfl)
  rw [lg_entry_eq]
  generalize (lg_sl ([.ref a, .int t]) ++ List.replicate (2 - (lg_sl ([.ref a, .int t])).length) Slot.unset).toArray = ls at hl ⊢
  have hl : lv_has ls 2 [(0, .ref a), (1, .int t)] := hl
  have hAa : (fun q => q = a) a := rfl
  refine lv_aload_n hx hb d_Chain_init1_0 rfl (lv_at hl 0 rfl) ?_
  refine lv_iload_n hx hb d_Chain_init1_1 rfl (lv_at hl 1 rfl) ?_
  refine lv_iconst (v := 5) hx hb d_Chain_init1_2 (by decide) ?_
  refine z_callQ (va_runI (As := [.int t, .int 5]) (rest := []) ⟨hx, hb, hml, hown, hts⟩ (c_Value_init l D dT _ a 6 (by decide) (by decide) 0 0 [.null, .null, .int 0] oa t 5) ⟨callB_of 2 hts (gI gd_up gd_c q222) rfl rfl rfl (ht _ q13) (ht _ q333) hd_Value_init ⟨Nat.le_of_ble_eq_true rfl, Nat.le_of_ble_eq_true rfl⟩, rfl, ht _ q221⟩ (z_preS hK) rfl rfl hl.1 rfl (lv_room (Nat.le_of_ble_eq_true rfl)) d_Chain_init1_3 ⟨(Nat.le_of_ble_eq_true rfl), (Nat.le_of_ble_eq_true rfl)⟩) hS (fun _ h9 => h9) (fun v2 H locs hv1 hz3 hf4 hS => ?_)
  obtain ⟨rfl, oa⟩ := hv1
  have oa : va_at D cls (a, .inr (6, [.int t, .int 5, .null, .null, .int 0])) H := oa
  refine W.eq (g2 := F0 m 6 ls []) rfl ?_
  refine lv_aload_n hx hb d_Chain_init1_6 rfl (lv_at hl 0 rfl) ?_
  refine lv_null hx hb d_Chain_init1_7 ?_
  refine z_putF (ci := 6) (C := "ValueTrees$Chain") (T := T_Chain) (N := 5) hx hb ht in_Chain ty_Chain tyk_Chain nm_Chain hown hK hS hAa oa rfl 2 (by decide) (ht _ q334) (fun _ h9 => h9) rfl hin rfl rfl rfl (Nat.le_of_ble_eq_true rfl) d_Chain_init1_8 (fun H locs oa hz5 ho6 hS => ?_)
  have oa : va_at D cls (a, .inr (6, [.int t, .int 5, .null, .null, .int 0])) H := oa
  refine lv_aload_n hx hb d_Chain_init1_11 rfl (lv_at hl 0 rfl) ?_
  refine lv_null hx hb d_Chain_init1_12 ?_
  refine z_putF (ci := 6) (C := "ValueTrees$Chain") (T := T_Chain) (N := 5) hx hb ht in_Chain ty_Chain tyk_Chain nm_Chain hown hK hS hAa oa rfl 3 (by decide) (ht _ q336) (fun _ h9 => h9) rfl hin rfl rfl rfl (Nat.le_of_ble_eq_true rfl) d_Chain_init1_13 (fun H locs oa hz7 ho8 hS => ?_)
  have oa : va_at D cls (a, .inr (6, [.int t, .int 5, .null, .null, .int 0])) H := oa
  refine lv_aload_n hx hb d_Chain_init1_16 rfl (lv_at hl 0 rfl) ?_
  refine lv_iconst (v := 0) hx hb d_Chain_init1_17 (by decide) ?_
  refine z_putF (ci := 6) (C := "ValueTrees$Chain") (T := T_Chain) (N := 5) hx hb ht in_Chain ty_Chain tyk_Chain nm_Chain hown hK hS hAa oa rfl 4 (by decide) (ht _ q338) (fun _ h9 => h9) rfl hin rfl rfl rfl (Nat.le_of_ble_eq_true rfl) d_Chain_init1_18 (fun H locs oa hz9 ho10 hS => ?_)
  have oa : va_at D cls (a, .inr (6, [.int t, .int 5, .null, .null, .int 0])) H := oa
  exact z_vretQ hx hb hr hlocks d_Chain_init1_21 hS (Nat.le_of_ble_eq_true rfl) (Nat.le_of_ble_eq_true rfl) ⟨rfl, oa⟩
abbrev b_Chain_init2 : ByteArray := prog_2_method_2_code
abbrev y_Chain_init2 : MethodName := ⟨"ValueTrees$Chain", "<init>", "(LValueTrees$Value;LValueTrees$Chain;)V"⟩
abbrev w_Chain_init2 : List Cond := .code y_Chain_init2 b_Chain_init2 3 (Option.none : Option FieldType) :: gt
theorem hd_Chain_init2 : (y_Chain_init2).cls ≠ "java/lang/invoke/MethodHandle" ∧ (y_Chain_init2).cls ≠ "java/lang/invoke/VarHandle" ∧ (parseMethodDescriptor (y_Chain_init2).desc).map (fun d => d.parameters.length) = some 2 := by decide +kernel
theorem d_Chain_init2_0 : decode b_Chain_init2 0 = .ok (.aload_n 0, 1) := by decide +kernel
theorem d_Chain_init2_1 : decode b_Chain_init2 1 = .ok (.aload_n 2, 1) := by decide +kernel
theorem d_Chain_init2_2 : decode b_Chain_init2 2 = .ok (.getfield 23, 3) := by decide +kernel
theorem d_Chain_init2_5 : decode b_Chain_init2 5 = .ok (.aload_n 2, 1) := by decide +kernel
theorem d_Chain_init2_6 : decode b_Chain_init2 6 = .ok (.getfield 26, 3) := by decide +kernel
theorem d_Chain_init2_9 : decode b_Chain_init2 9 = .ok (.aload_n 1, 1) := by decide +kernel
theorem d_Chain_init2_10 : decode b_Chain_init2 10 = .ok (.getfield 29, 3) := by decide +kernel
theorem d_Chain_init2_13 : decode b_Chain_init2 13 = .ok (.iadd, 1) := by decide +kernel
theorem d_Chain_init2_14 : decode b_Chain_init2 14 = .ok (.invokespecial 3, 3) := by decide +kernel
theorem d_Chain_init2_17 : decode b_Chain_init2 17 = .ok (.aload_n 0, 1) := by decide +kernel
theorem d_Chain_init2_18 : decode b_Chain_init2 18 = .ok (.aload_n 1, 1) := by decide +kernel
theorem d_Chain_init2_19 : decode b_Chain_init2 19 = .ok (.putfield 9, 3) := by decide +kernel
theorem d_Chain_init2_22 : decode b_Chain_init2 22 = .ok (.aload_n 0, 1) := by decide +kernel
theorem d_Chain_init2_23 : decode b_Chain_init2 23 = .ok (.aload_n 2, 1) := by decide +kernel
theorem d_Chain_init2_24 : decode b_Chain_init2 24 = .ok (.putfield 15, 3) := by decide +kernel
theorem d_Chain_init2_27 : decode b_Chain_init2 27 = .ok (.aload_n 0, 1) := by decide +kernel
theorem d_Chain_init2_28 : decode b_Chain_init2 28 = .ok (.aload_n 2, 1) := by decide +kernel
theorem d_Chain_init2_29 : decode b_Chain_init2 29 = .ok (.getfield 19, 3) := by decide +kernel
theorem d_Chain_init2_32 : decode b_Chain_init2 32 = .ok (.iconst 1, 1) := by decide +kernel
theorem d_Chain_init2_33 : decode b_Chain_init2 33 = .ok (.iadd, 1) := by decide +kernel
theorem d_Chain_init2_34 : decode b_Chain_init2 34 = .ok (.putfield 19, 3) := by decide +kernel
theorem d_Chain_init2_37 : decode b_Chain_init2 37 = .ok (.return_, 1) := by decide +kernel
set_option maxHeartbeats 4000000 in
set_option maxRecDepth 100000 in
theorem c_Chain_init2 (l : Launch) (D : va_G) (dT : Nat → ClassId) (H : Heap) (a : Nat) (oa : va_at D cls (a, .inr (6, [.int 0, .int 0, .null, .null, .int 0])) H) (b d : Nat) (tt nx : Int32) (hvb : vh D b tt nx H) (t n k : Int32) (x y : Value) (od : va_at D cls (d, .inr (6, [.int t, .int n, x, y, .int k])) H) (hne : d ≠ a) : Met l y_Chain_init2 w_Chain_init2 ({ frames := 2, cells := 0, slots := 0, locals := 42 }) (z_P D dT [.ref a, .ref b, .ref d] H) (z_Q (fun q => q = a) (fun v H1 => v = none ∧ va_at D cls (a, .inr (6, [.int t, .int (n + nx), .ref b, .ref d, .int (k + 1)])) H1)) 0 0 (fun q => q = a) := by
  refine Met.ofW (cc := b_Chain_init2) (maxL := 3) (ret := (Option.none : Option FieldType)) (by decide) rfl ?_
  intro p e s m args below meth c s₁ B hml hv
  obtain ⟨rfl, rfl, hK⟩ := hv
  have hx := B.exec
  have hb := B.bytes
  have hr := B.returns
  have hts := atoms_spec (ws := w_Chain_init2) B.pre
  have ht : ∀ w9 ∈ gt, w9.before [.ref a, .ref b, .ref d].toArray s = true := fun w9 h => hts w9 (List.mem_cons_of_mem _ h)
  have hown : s.vm.findClass "ValueTrees$Chain" = some m.cls := findClass_of_methodNamed B.named
  have hlocks := B.notSynchronized
  have hin : meth.name = "<init>" := (name_of_methodNamed B.named B.method).1
  have hS : va_S (fun q => q = a) s.heap s.heap [] := va_S.rf
  have hl := lv_entry ([.ref a, .ref b, .ref d]) (n := 3) (Nat.le_of_ble_eq_true rfl)
  rw [lg_entry_eq]
  generalize (lg_sl ([.ref a, .ref b, .ref d]) ++ List.replicate (3 - (lg_sl ([.ref a, .ref b, .ref d])).length) Slot.unset).toArray = ls at hl ⊢
  have hl : lv_has ls 3 [(0, .ref a), (1, .ref b), (2, .ref d)] := hl
  have hAa : (fun q => q = a) a := rfl
  refine lv_aload_n hx hb d_Chain_init2_0 rfl (lv_at hl 0 rfl) ?_
  refine lv_aload_n hx hb d_Chain_init2_1 rfl (lv_at hl 2 rfl) ?_
  refine va_get (D := D) (ci := 6) (v := .int t) (C := "ValueTrees$Chain") (T := T_Chain) (N := 5) hx hb ht in_Chain hown hK.1 (z_1 od) 0 rfl rfl 0 (by decide) (ht _ q231) (u_same (ht _ q232)) rfl d_Chain_init2_2 ?_
  refine lv_aload_n hx hb d_Chain_init2_5 rfl (lv_at hl 2 rfl) ?_
  refine va_get (D := D) (ci := 6) (v := .int n) (C := "ValueTrees$Chain") (T := T_Chain) (N := 5) hx hb ht in_Chain hown hK.1 (z_1 od) 0 rfl rfl 1 (by decide) (ht _ q243) (u_same (ht _ q244)) rfl d_Chain_init2_6 ?_
  refine lv_aload_n hx hb d_Chain_init2_9 rfl (lv_at hl 1 rfl) ?_
  refine z_vlen hx hb ht hown hK hvb (ht _ q245) d_Chain_init2_10 ?_
  refine lv_iadd hx hb d_Chain_init2_13 ?_
  refine z_callQ (va_runI (As := [.int t, .int (n + nx)]) (rest := []) ⟨hx, hb, hml, hown, hts⟩ (c_Value_init l D dT _ a 6 (by decide) (by decide) 0 0 [.null, .null, .int 0] oa t (n + nx)) ⟨callB_of 2 hts (gI gd_up gd_c q222) rfl rfl rfl (ht _ q13) (ht _ q333) hd_Value_init ⟨Nat.le_of_ble_eq_true rfl, Nat.le_of_ble_eq_true rfl⟩, rfl, ht _ q221⟩ (z_preS hK) rfl rfl hl.1 rfl (lv_room (Nat.le_of_ble_eq_true rfl)) d_Chain_init2_14 ⟨(Nat.le_of_ble_eq_true rfl), (Nat.le_of_ble_eq_true rfl)⟩) hS (fun _ h9 => h9) (fun v2 H locs hv1 hz3 hf4 hS => ?_)
  obtain ⟨rfl, oa⟩ := hv1
  have oa : va_at D cls (a, .inr (6, [.int t, .int (n + nx), .null, .null, .int 0])) H := oa
  have od := od.kept (hf4 _ od.lt hne)
  refine W.eq (g2 := F0 m 17 ls []) rfl ?_
  refine lv_aload_n hx hb d_Chain_init2_17 rfl (lv_at hl 0 rfl) ?_
  refine lv_aload_n hx hb d_Chain_init2_18 rfl (lv_at hl 1 rfl) ?_
  refine z_putF (ci := 6) (C := "ValueTrees$Chain") (T := T_Chain) (N := 5) hx hb ht in_Chain ty_Chain tyk_Chain nm_Chain hown hK hS hAa oa rfl 2 (by decide) (ht _ q334) (fun _ h9 => h9) rfl hin rfl rfl rfl (Nat.le_of_ble_eq_true rfl) d_Chain_init2_19 (fun H locs oa hz5 ho6 hS => ?_)
  have oa : va_at D cls (a, .inr (6, [.int t, .int (n + nx), .ref b, .null, .int 0])) H := oa
  have od := od.off ho6 hne
  refine lv_aload_n hx hb d_Chain_init2_22 rfl (lv_at hl 0 rfl) ?_
  refine lv_aload_n hx hb d_Chain_init2_23 rfl (lv_at hl 2 rfl) ?_
  refine z_putF (ci := 6) (C := "ValueTrees$Chain") (T := T_Chain) (N := 5) hx hb ht in_Chain ty_Chain tyk_Chain nm_Chain hown hK hS hAa oa rfl 3 (by decide) (ht _ q336) (fun _ h9 => h9) rfl hin rfl rfl rfl (Nat.le_of_ble_eq_true rfl) d_Chain_init2_24 (fun H locs oa hz7 ho8 hS => ?_)
  have oa : va_at D cls (a, .inr (6, [.int t, .int (n + nx), .ref b, .ref d, .int 0])) H := oa
  have od := od.off ho8 hne
  refine lv_aload_n hx hb d_Chain_init2_27 rfl (lv_at hl 0 rfl) ?_
  refine lv_aload_n hx hb d_Chain_init2_28 rfl (lv_at hl 2 rfl) ?_
  refine va_get (D := D) (ci := 6) (v := .int k) (C := "ValueTrees$Chain") (T := T_Chain) (N := 5) hx hb ht in_Chain hown hK.1 (z_1 od) 0 rfl rfl 4 (by decide) (ht _ q338) (fun _ h9 => h9) rfl d_Chain_init2_29 ?_
  refine lv_iconst (v := 1) hx hb d_Chain_init2_32 (by decide) ?_
  refine lv_iadd hx hb d_Chain_init2_33 ?_
  refine z_putF (ci := 6) (C := "ValueTrees$Chain") (T := T_Chain) (N := 5) hx hb ht in_Chain ty_Chain tyk_Chain nm_Chain hown hK hS hAa oa rfl 4 (by decide) (ht _ q338) (fun _ h9 => h9) rfl hin rfl rfl rfl (Nat.le_of_ble_eq_true rfl) d_Chain_init2_34 (fun H locs oa hz9 ho10 hS => ?_)
  have oa : va_at D cls (a, .inr (6, [.int t, .int (n + nx), .ref b, .ref d, .int (k + 1)])) H := oa
  have od := od.off ho10 hne
  exact z_vretQ hx hb hr hlocks d_Chain_init2_37 hS (Nat.le_of_ble_eq_true rfl) (Nat.le_of_ble_eq_true rfl) ⟨rfl, oa⟩
abbrev b_Entry_init : ByteArray := prog_5_method_1_code
abbrev y_Entry_init : MethodName := ⟨"ValueTrees$Entry", "<init>", "(LValueTrees$Value;LValueTrees$Value;)V"⟩
abbrev w_Entry_init : List Cond := .code y_Entry_init b_Entry_init 3 (Option.none : Option FieldType) :: gt
theorem hd_Entry_init : (y_Entry_init).cls ≠ "java/lang/invoke/MethodHandle" ∧ (y_Entry_init).cls ≠ "java/lang/invoke/VarHandle" ∧ (parseMethodDescriptor (y_Entry_init).desc).map (fun d => d.parameters.length) = some 2 := by decide +kernel
theorem d_Entry_init_0 : decode b_Entry_init 0 = .ok (.aload_n 0, 1) := by decide +kernel
theorem d_Entry_init_1 : decode b_Entry_init 1 = .ok (.invokespecial 3, 3) := by decide +kernel
theorem d_Entry_init_4 : decode b_Entry_init 4 = .ok (.aload_n 0, 1) := by decide +kernel
theorem d_Entry_init_5 : decode b_Entry_init 5 = .ok (.aload_n 1, 1) := by decide +kernel
theorem d_Entry_init_6 : decode b_Entry_init 6 = .ok (.putfield 9, 3) := by decide +kernel
theorem d_Entry_init_9 : decode b_Entry_init 9 = .ok (.aload_n 0, 1) := by decide +kernel
theorem d_Entry_init_10 : decode b_Entry_init 10 = .ok (.aload_n 2, 1) := by decide +kernel
theorem d_Entry_init_11 : decode b_Entry_init 11 = .ok (.putfield 15, 3) := by decide +kernel
theorem d_Entry_init_14 : decode b_Entry_init 14 = .ok (.aload_n 0, 1) := by decide +kernel
theorem d_Entry_init_15 : decode b_Entry_init 15 = .ok (.aload_n 2, 1) := by decide +kernel
theorem d_Entry_init_16 : decode b_Entry_init 16 = .ok (.ifnonnull 10, 3) := by decide +kernel
theorem d_Entry_init_19 : decode b_Entry_init 19 = .ok (.aload_n 1, 1) := by decide +kernel
theorem d_Entry_init_20 : decode b_Entry_init 20 = .ok (.getfield 18, 3) := by decide +kernel
theorem d_Entry_init_23 : decode b_Entry_init 23 = .ok (.goto 14, 3) := by decide +kernel
theorem d_Entry_init_26 : decode b_Entry_init 26 = .ok (.iconst 2, 1) := by decide +kernel
theorem d_Entry_init_27 : decode b_Entry_init 27 = .ok (.aload_n 1, 1) := by decide +kernel
theorem d_Entry_init_28 : decode b_Entry_init 28 = .ok (.getfield 18, 3) := by decide +kernel
theorem d_Entry_init_31 : decode b_Entry_init 31 = .ok (.iadd, 1) := by decide +kernel
theorem d_Entry_init_32 : decode b_Entry_init 32 = .ok (.aload_n 2, 1) := by decide +kernel
theorem d_Entry_init_33 : decode b_Entry_init 33 = .ok (.getfield 18, 3) := by decide +kernel
theorem d_Entry_init_36 : decode b_Entry_init 36 = .ok (.iadd, 1) := by decide +kernel
theorem d_Entry_init_37 : decode b_Entry_init 37 = .ok (.putfield 24, 3) := by decide +kernel
theorem d_Entry_init_40 : decode b_Entry_init 40 = .ok (.return_, 1) := by decide +kernel
set_option maxHeartbeats 4000000 in
set_option maxRecDepth 100000 in
theorem c_Entry_init_n (l : Launch) (D : va_G) (dT : Nat → ClassId) (H : Heap) (a : Nat) (oa : va_at D cls (a, .inr (8, [.null, .null, .int 0])) H) (b : Nat) (tt n : Int32) (hvb : vh D b tt n H) (hnb : b ≠ a) : Met l y_Entry_init w_Entry_init ({ frames := 1, cells := 0, slots := 0, locals := 20 }) (z_P D dT [.ref a, .ref b, .null] H) (z_Q (fun q => q = a) (fun v H1 => v = none ∧ va_at D cls (a, .inr (8, [.ref b, .null, .int n])) H1)) 0 0 (fun q => q = a) := by
  refine Met.ofW (cc := b_Entry_init) (maxL := 3) (ret := (Option.none : Option FieldType)) (by decide) rfl ?_
  intro p e s m args below meth c s₁ B hml hv
  obtain ⟨rfl, rfl, hK⟩ := hv
  have hx := B.exec
  have hb := B.bytes
  have hr := B.returns
  have hts := atoms_spec (ws := w_Entry_init) B.pre
  have ht : ∀ w9 ∈ gt, w9.before [.ref a, .ref b, .null].toArray s = true := fun w9 h => hts w9 (List.mem_cons_of_mem _ h)
  have hown : s.vm.findClass "ValueTrees$Entry" = some m.cls := findClass_of_methodNamed B.named
  have hlocks := B.notSynchronized
  have hin : meth.name = "<init>" := (name_of_methodNamed B.named B.method).1
  have hS : va_S (fun q => q = a) s.heap s.heap [] := va_S.rf
  have hl := lv_entry ([.ref a, .ref b, .null]) (n := 3) (Nat.le_of_ble_eq_true rfl)
  rw [lg_entry_eq]
  generalize (lg_sl ([.ref a, .ref b, .null]) ++ List.replicate (3 - (lg_sl ([.ref a, .ref b, .null])).length) Slot.unset).toArray = ls at hl ⊢
  have hl : lv_has ls 3 [(0, .ref a), (1, .ref b), (2, .null)] := hl
  have hAa : (fun q => q = a) a := rfl
  refine lv_aload_n hx hb d_Entry_init_0 rfl (lv_at hl 0 rfl) ?_
  refine W.objInit hx hb hown (ht _ q424) (ht _ q27) (ht _ q28) rfl (hl.1.trans hml.symm) rfl d_Entry_init_1 (Nat.le_of_ble_eq_true rfl) (Nat.le_of_ble_eq_true rfl) ?_
  refine W.eq (g2 := F0 m 4 ls []) rfl ?_
  refine lv_aload_n hx hb d_Entry_init_4 rfl (lv_at hl 0 rfl) ?_
  refine lv_aload_n hx hb d_Entry_init_5 rfl (lv_at hl 1 rfl) ?_
  refine z_putF (ci := 8) (C := "ValueTrees$Entry") (T := T_Entry) (N := 3) hx hb ht in_Entry ty_Entry tyk_Entry nm_Entry hown hK hS hAa oa rfl 0 (by decide) (ht _ q425) (fun _ h9 => h9) rfl hin rfl rfl rfl (Nat.le_of_ble_eq_true rfl) d_Entry_init_6 (fun H locs oa hz1 ho2 hS => ?_)
  have oa : va_at D cls (a, .inr (8, [.ref b, .null, .int 0])) H := oa
  have hvb := hvb.off ho2 hnb
  refine lv_aload_n hx hb d_Entry_init_9 rfl (lv_at hl 0 rfl) ?_
  refine lv_aload_nN hx hb d_Entry_init_10 rfl (lv_at hl 2 rfl) ?_
  refine z_putF (ci := 8) (C := "ValueTrees$Entry") (T := T_Entry) (N := 3) hx hb ht in_Entry ty_Entry tyk_Entry nm_Entry hown hK hS hAa oa rfl 1 (by decide) (ht _ q427) (fun _ h9 => h9) rfl hin rfl rfl rfl (Nat.le_of_ble_eq_true rfl) d_Entry_init_11 (fun H locs oa hz3 ho4 hS => ?_)
  have oa : va_at D cls (a, .inr (8, [.ref b, .null, .int 0])) H := oa
  have hvb := hvb.off ho4 hnb
  refine lv_aload_n hx hb d_Entry_init_14 rfl (lv_at hl 0 rfl) ?_
  refine lv_aload_nN hx hb d_Entry_init_15 rfl (lv_at hl 2 rfl) ?_
  refine lv_ifnonnullN hx hb d_Entry_init_16 ?_
  refine lv_aload_n hx hb d_Entry_init_19 rfl (lv_at hl 1 rfl) ?_
  refine z_vlen hx hb ht hown hK hvb (ht _ q241) d_Entry_init_20 ?_
  refine lv_goto (tgt := 37) hx hb d_Entry_init_23 (by decide) ?_
  refine z_putF (ci := 8) (C := "ValueTrees$Entry") (T := T_Entry) (N := 3) hx hb ht in_Entry ty_Entry tyk_Entry nm_Entry hown hK hS hAa oa rfl 2 (by decide) (ht _ q429) (fun _ h9 => h9) rfl hin rfl rfl rfl (Nat.le_of_ble_eq_true rfl) d_Entry_init_37 (fun H locs oa hz5 ho6 hS => ?_)
  have oa : va_at D cls (a, .inr (8, [.ref b, .null, .int n])) H := oa
  have hvb := hvb.off ho6 hnb
  exact z_vretQ hx hb hr hlocks d_Entry_init_40 hS (Nat.le_of_ble_eq_true rfl) (Nat.le_of_ble_eq_true rfl) ⟨rfl, oa⟩
set_option maxHeartbeats 4000000 in
set_option maxRecDepth 100000 in
theorem c_Entry_init_r (l : Launch) (D : va_G) (dT : Nat → ClassId) (H : Heap) (a : Nat) (oa : va_at D cls (a, .inr (8, [.null, .null, .int 0])) H) (b d : Nat) (tt n tu k : Int32) (hvb : vh D b tt n H) (hnb : b ≠ a) (hvd : vh D d tu k H) (hnd : d ≠ a) : Met l y_Entry_init w_Entry_init ({ frames := 1, cells := 0, slots := 0, locals := 20 }) (z_P D dT [.ref a, .ref b, .ref d] H) (z_Q (fun q => q = a) (fun v H1 => v = none ∧ va_at D cls (a, .inr (8, [.ref b, .ref d, .int (2 + n + k)])) H1)) 0 0 (fun q => q = a) := by
  refine Met.ofW (cc := b_Entry_init) (maxL := 3) (ret := (Option.none : Option FieldType)) (by decide) rfl ?_
  intro p e s m args below meth c s₁ B hml hv
  obtain ⟨rfl, rfl, hK⟩ := hv
  have hx := B.exec
  have hb := B.bytes
  have hr := B.returns
  have hts := atoms_spec (ws := w_Entry_init) B.pre
  have ht : ∀ w9 ∈ gt, w9.before [.ref a, .ref b, .ref d].toArray s = true := fun w9 h => hts w9 (List.mem_cons_of_mem _ h)
  have hown : s.vm.findClass "ValueTrees$Entry" = some m.cls := findClass_of_methodNamed B.named
  have hlocks := B.notSynchronized
  have hin : meth.name = "<init>" := (name_of_methodNamed B.named B.method).1
  have hS : va_S (fun q => q = a) s.heap s.heap [] := va_S.rf
  have hl := lv_entry ([.ref a, .ref b, .ref d]) (n := 3) (Nat.le_of_ble_eq_true rfl)
  rw [lg_entry_eq]
  generalize (lg_sl ([.ref a, .ref b, .ref d]) ++ List.replicate (3 - (lg_sl ([.ref a, .ref b, .ref d])).length) Slot.unset).toArray = ls at hl ⊢
  have hl : lv_has ls 3 [(0, .ref a), (1, .ref b), (2, .ref d)] := hl
  have hAa : (fun q => q = a) a := rfl
  refine lv_aload_n hx hb d_Entry_init_0 rfl (lv_at hl 0 rfl) ?_
  refine W.objInit hx hb hown (ht _ q424) (ht _ q27) (ht _ q28) rfl (hl.1.trans hml.symm) rfl d_Entry_init_1 (Nat.le_of_ble_eq_true rfl) (Nat.le_of_ble_eq_true rfl) ?_
  refine W.eq (g2 := F0 m 4 ls []) rfl ?_
  refine lv_aload_n hx hb d_Entry_init_4 rfl (lv_at hl 0 rfl) ?_
  refine lv_aload_n hx hb d_Entry_init_5 rfl (lv_at hl 1 rfl) ?_
  refine z_putF (ci := 8) (C := "ValueTrees$Entry") (T := T_Entry) (N := 3) hx hb ht in_Entry ty_Entry tyk_Entry nm_Entry hown hK hS hAa oa rfl 0 (by decide) (ht _ q425) (fun _ h9 => h9) rfl hin rfl rfl rfl (Nat.le_of_ble_eq_true rfl) d_Entry_init_6 (fun H locs oa hz1 ho2 hS => ?_)
  have oa : va_at D cls (a, .inr (8, [.ref b, .null, .int 0])) H := oa
  have hvb := hvb.off ho2 hnb
  have hvd := hvd.off ho2 hnd
  refine lv_aload_n hx hb d_Entry_init_9 rfl (lv_at hl 0 rfl) ?_
  refine lv_aload_n hx hb d_Entry_init_10 rfl (lv_at hl 2 rfl) ?_
  refine z_putF (ci := 8) (C := "ValueTrees$Entry") (T := T_Entry) (N := 3) hx hb ht in_Entry ty_Entry tyk_Entry nm_Entry hown hK hS hAa oa rfl 1 (by decide) (ht _ q427) (fun _ h9 => h9) rfl hin rfl rfl rfl (Nat.le_of_ble_eq_true rfl) d_Entry_init_11 (fun H locs oa hz3 ho4 hS => ?_)
  have oa : va_at D cls (a, .inr (8, [.ref b, .ref d, .int 0])) H := oa
  have hvb := hvb.off ho4 hnb
  have hvd := hvd.off ho4 hnd
  refine lv_aload_n hx hb d_Entry_init_14 rfl (lv_at hl 0 rfl) ?_
  refine lv_aload_n hx hb d_Entry_init_15 rfl (lv_at hl 2 rfl) ?_
  refine lv_ifnonnull (tgt := 26) hx hb d_Entry_init_16 (by decide) ?_
  refine lv_iconst (v := 2) hx hb d_Entry_init_26 (by decide) ?_
  refine lv_aload_n hx hb d_Entry_init_27 rfl (lv_at hl 1 rfl) ?_
  refine z_vlen hx hb ht hown hK hvb (ht _ q241) d_Entry_init_28 ?_
  refine lv_iadd hx hb d_Entry_init_31 ?_
  refine lv_aload_n hx hb d_Entry_init_32 rfl (lv_at hl 2 rfl) ?_
  refine z_vlen hx hb ht hown hK hvd (ht _ q241) d_Entry_init_33 ?_
  refine lv_iadd hx hb d_Entry_init_36 ?_
  refine z_putF (ci := 8) (C := "ValueTrees$Entry") (T := T_Entry) (N := 3) hx hb ht in_Entry ty_Entry tyk_Entry nm_Entry hown hK hS hAa oa rfl 2 (by decide) (ht _ q429) (fun _ h9 => h9) rfl hin rfl rfl rfl (Nat.le_of_ble_eq_true rfl) d_Entry_init_37 (fun H locs oa hz5 ho6 hS => ?_)
  have oa : va_at D cls (a, .inr (8, [.ref b, .ref d, .int ((2 + n) + k)])) H := oa
  have hvb := hvb.off ho6 hnb
  have hvd := hvd.off ho6 hnd
  exact z_vretQ hx hb hr hlocks d_Entry_init_40 hS (Nat.le_of_ble_eq_true rfl) (Nat.le_of_ble_eq_true rfl) ⟨rfl, oa⟩
abbrev b_Tree_init : ByteArray := prog_7_method_1_code
abbrev y_Tree_init : MethodName := ⟨"ValueTrees$Tree", "<init>", "(II[LValueTrees$Entry;)V"⟩
abbrev w_Tree_init : List Cond := .code y_Tree_init b_Tree_init 4 (Option.none : Option FieldType) :: gt
theorem hd_Tree_init : (y_Tree_init).cls ≠ "java/lang/invoke/MethodHandle" ∧ (y_Tree_init).cls ≠ "java/lang/invoke/VarHandle" ∧ (parseMethodDescriptor (y_Tree_init).desc).map (fun d => d.parameters.length) = some 3 := by decide +kernel
theorem d_Tree_init_0 : decode b_Tree_init 0 = .ok (.aload_n 0, 1) := by decide +kernel
theorem d_Tree_init_1 : decode b_Tree_init 1 = .ok (.iload_n 1, 1) := by decide +kernel
theorem d_Tree_init_2 : decode b_Tree_init 2 = .ok (.iload_n 2, 1) := by decide +kernel
theorem d_Tree_init_3 : decode b_Tree_init 3 = .ok (.invokespecial 1, 3) := by decide +kernel
theorem d_Tree_init_6 : decode b_Tree_init 6 = .ok (.aload_n 0, 1) := by decide +kernel
theorem d_Tree_init_7 : decode b_Tree_init 7 = .ok (.aload_n 3, 1) := by decide +kernel
theorem d_Tree_init_8 : decode b_Tree_init 8 = .ok (.putfield 7, 3) := by decide +kernel
theorem d_Tree_init_11 : decode b_Tree_init 11 = .ok (.return_, 1) := by decide +kernel
set_option maxHeartbeats 4000000 in
set_option maxRecDepth 100000 in
theorem c_Tree_init (l : Launch) (D : va_G) (dT : Nat → ClassId) (H : Heap) (a : Nat) (oa : va_at D cls (a, .inr (7, [.int 0, .int 0, .null])) H) (t n : Int32) (e9 : Nat) : Met l y_Tree_init w_Tree_init ({ frames := 2, cells := 0, slots := 0, locals := 42 }) (z_P D dT [.ref a, .int t, .int n, .ref e9] H) (z_Q (fun q => q = a) (fun v H1 => v = none ∧ va_at D cls (a, .inr (7, [.int t, .int n, .ref e9])) H1)) 0 0 (fun q => q = a) := by
  refine Met.ofW (cc := b_Tree_init) (maxL := 4) (ret := (Option.none : Option FieldType)) (by decide) rfl ?_
  intro p e s m args below meth c s₁ B hml hv
  obtain ⟨rfl, rfl, hK⟩ := hv
  have hx := B.exec
  have hb := B.bytes
  have hr := B.returns
  have hts := atoms_spec (ws := w_Tree_init) B.pre
  have ht : ∀ w9 ∈ gt, w9.before [.ref a, .int t, .int n, .ref e9].toArray s = true := fun w9 h => hts w9 (List.mem_cons_of_mem _ h)
  have hown : s.vm.findClass "ValueTrees$Tree" = some m.cls := findClass_of_methodNamed B.named
  have hlocks := B.notSynchronized
  have hin : meth.name = "<init>" := (name_of_methodNamed B.named B.method).1
  have hS : va_S (fun q => q = a) s.heap s.heap [] := va_S.rf
  have hl := lv_entry ([.ref a, .int t, .int n, .ref e9]) (n := 4) (Nat.le_of_ble_eq_true rfl)
  rw [lg_entry_eq]
  generalize (lg_sl ([.ref a, .int t, .int n, .ref e9]) ++ List.replicate (4 - (lg_sl ([.ref a, .int t, .int n, .ref e9])).length) Slot.unset).toArray = ls at hl ⊢
  have hl : lv_has ls 4 [(0, .ref a), (1, .int t), (2, .int n), (3, .ref e9)] := hl
  have hAa : (fun q => q = a) a := rfl
  refine lv_aload_n hx hb d_Tree_init_0 rfl (lv_at hl 0 rfl) ?_
  refine lv_iload_n hx hb d_Tree_init_1 rfl (lv_at hl 1 rfl) ?_
  refine lv_iload_n hx hb d_Tree_init_2 rfl (lv_at hl 2 rfl) ?_
  refine z_callQ (va_runI (As := [.int t, .int n]) (rest := []) ⟨hx, hb, hml, hown, hts⟩ (c_Value_init l D dT _ a 7 (by decide) (by decide) 0 0 [.null] oa t n) ⟨callB_of 2 hts (gI gd_up gd_c q222) rfl rfl rfl (ht _ q13) (ht _ q356) hd_Value_init ⟨Nat.le_of_ble_eq_true rfl, Nat.le_of_ble_eq_true rfl⟩, rfl, ht _ q221⟩ (z_preS hK) rfl rfl hl.1 rfl (lv_room (Nat.le_of_ble_eq_true rfl)) d_Tree_init_3 ⟨(Nat.le_of_ble_eq_true rfl), (Nat.le_of_ble_eq_true rfl)⟩) hS (fun _ h9 => h9) (fun v2 H locs hv1 hz3 hf4 hS => ?_)
  obtain ⟨rfl, oa⟩ := hv1
  have oa : va_at D cls (a, .inr (7, [.int t, .int n, .null])) H := oa
  refine W.eq (g2 := F0 m 6 ls []) rfl ?_
  refine lv_aload_n hx hb d_Tree_init_6 rfl (lv_at hl 0 rfl) ?_
  refine lv_aload_n hx hb d_Tree_init_7 rfl (lv_at hl 3 rfl) ?_
  refine z_putF (ci := 7) (C := "ValueTrees$Tree") (T := T_Tree) (N := 3) hx hb ht in_Tree ty_Tree tyk_Tree nm_Tree hown hK hS hAa oa rfl 2 (by decide) (ht _ q357) (fun _ h9 => h9) rfl hin rfl rfl rfl (Nat.le_of_ble_eq_true rfl) d_Tree_init_8 (fun H locs oa hz5 ho6 hS => ?_)
  have oa : va_at D cls (a, .inr (7, [.int t, .int n, .ref e9])) H := oa
  exact z_vretQ hx hb hr hlocks d_Tree_init_11 hS (Nat.le_of_ble_eq_true rfl) (Nat.le_of_ble_eq_true rfl) ⟨rfl, oa⟩
