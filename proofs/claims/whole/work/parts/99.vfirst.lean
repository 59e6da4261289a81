abbrev b_AbC_init : ByteArray := prog_18_method_1_code
abbrev y_AbC_init : MethodName := ⟨"java/util/AbstractCollection", "<init>", "()V"⟩
abbrev w_AbC_init : List Cond := .code y_AbC_init b_AbC_init 1 (Option.none : Option FieldType) :: gt
theorem hd_AbC_init : (y_AbC_init).cls ≠ "java/lang/invoke/MethodHandle" ∧ (y_AbC_init).cls ≠ "java/lang/invoke/VarHandle" ∧ (parseMethodDescriptor (y_AbC_init).desc).map (fun d => d.parameters.length) = some 0 := by decide +kernel
theorem d_AbC_init_0 : decode b_AbC_init 0 = .ok (.aload_n 0, 1) := by decide +kernel
theorem d_AbC_init_1 : decode b_AbC_init 1 = .ok (.invokespecial 1, 3) := by decide +kernel
theorem d_AbC_init_4 : decode b_AbC_init 4 = .ok (.return_, 1) := by decide +kernel
set_option maxHeartbeats 4000000 in
set_option maxRecDepth 100000 in
theorem c_AbC_init (l : Launch) (D : va_G) (dT : Nat → ClassId) (H : Heap) (a : Nat) : Met l y_AbC_init w_AbC_init ({ frames := 1, cells := 0, slots := 0, locals := 20 }) (z_P D dT [.ref a] H) (z_Q (fun _ => False) (fun v H1 => v = none ∧ H1 = H)) 0 0 (fun _ => False) := by
  refine Met.ofW (cc := b_AbC_init) (maxL := 1) (ret := (Option.none : Option FieldType)) (by decide) rfl ?_
  intro p e s m args below meth c s₁ B hml hv
  obtain ⟨rfl, rfl, hK⟩ := hv
  have hx := B.exec
  have hb := B.bytes
  have hr := B.returns
  have hts := atoms_spec (ws := w_AbC_init) B.pre
  have ht : ∀ w9 ∈ gt, w9.before [.ref a].toArray s = true := fun w9 h => hts w9 (List.mem_cons_of_mem _ h)
  have hown : s.vm.findClass "java/util/AbstractCollection" = some m.cls := findClass_of_methodNamed B.named
  have hlocks := B.notSynchronized
  have hin : meth.name = "<init>" := (name_of_methodNamed B.named B.method).1
  have hS : va_S (fun _ => False) s.heap s.heap [] := va_S.rf
  have hl := lv_entry ([.ref a]) (n := 1) (Nat.le_of_ble_eq_true rfl)
  rw [lg_entry_eq]
  generalize (lg_sl ([.ref a]) ++ List.replicate (1 - (lg_sl ([.ref a])).length) Slot.unset).toArray = ls at hl ⊢
  have hl : lv_has ls 1 [(0, .ref a)] := hl
  refine lv_aload_n hx hb d_AbC_init_0 rfl (lv_at hl 0 rfl) ?_
  refine W.objInit hx hb hown (ht _ q40) (ht _ q27) (ht _ q28) rfl (hl.1.trans hml.symm) rfl d_AbC_init_1 (Nat.le_of_ble_eq_true rfl) (Nat.le_of_ble_eq_true rfl) ?_
  refine W.eq (g2 := F0 m 4 ls []) rfl ?_
  exact z_vretQ hx hb hr hlocks d_AbC_init_4 hS (Nat.le_of_ble_eq_true rfl) (Nat.le_of_ble_eq_true rfl) ⟨rfl, rfl⟩
abbrev b_AbL_init : ByteArray := prog_19_method_1_code
abbrev y_AbL_init : MethodName := ⟨"java/util/AbstractList", "<init>", "()V"⟩
abbrev w_AbL_init : List Cond := .code y_AbL_init b_AbL_init 1 (Option.none : Option FieldType) :: gt
theorem hd_AbL_init : (y_AbL_init).cls ≠ "java/lang/invoke/MethodHandle" ∧ (y_AbL_init).cls ≠ "java/lang/invoke/VarHandle" ∧ (parseMethodDescriptor (y_AbL_init).desc).map (fun d => d.parameters.length) = some 0 := by decide +kernel
theorem d_AbL_init_0 : decode b_AbL_init 0 = .ok (.aload_n 0, 1) := by decide +kernel
theorem d_AbL_init_1 : decode b_AbL_init 1 = .ok (.invokespecial 1, 3) := by decide +kernel
theorem d_AbL_init_4 : decode b_AbL_init 4 = .ok (.aload_n 0, 1) := by decide +kernel
theorem d_AbL_init_5 : decode b_AbL_init 5 = .ok (.iconst 0, 1) := by decide +kernel
theorem d_AbL_init_6 : decode b_AbL_init 6 = .ok (.putfield 7, 3) := by decide +kernel
theorem d_AbL_init_9 : decode b_AbL_init 9 = .ok (.return_, 1) := by decide +kernel
set_option maxHeartbeats 4000000 in
set_option maxRecDepth 100000 in
theorem c_AbL_init (l : Launch) (D : va_G) (dT : Nat → ClassId) (H : Heap) (a : Nat) (oa : va_at D cls (a, .inr (9, [.int 0, .null, .int 0])) H) : Met l y_AbL_init w_AbL_init ({ frames := 2, cells := 0, slots := 0, locals := 40 }) (z_P D dT [.ref a] H) (z_Q (fun q => q = a) (fun v H1 => v = none ∧ va_at D cls (a, .inr (9, [.int 0, .null, .int 0])) H1)) 0 0 (fun q => q = a) := by
  refine Met.ofW (cc := b_AbL_init) (maxL := 1) (ret := (Option.none : Option FieldType)) (by decide) rfl ?_
  intro p e s m args below meth c s₁ B hml hv
  obtain ⟨rfl, rfl, hK⟩ := hv
  have hx := B.exec
  have hb := B.bytes
  have hr := B.returns
  have hts := atoms_spec (ws := w_AbL_init) B.pre
  have ht : ∀ w9 ∈ gt, w9.before [.ref a].toArray s = true := fun w9 h => hts w9 (List.mem_cons_of_mem _ h)
  have hown : s.vm.findClass "java/util/AbstractList" = some m.cls := findClass_of_methodNamed B.named
  have hlocks := B.notSynchronized
  have hin : meth.name = "<init>" := (name_of_methodNamed B.named B.method).1
  have hS : va_S (fun q => q = a) s.heap s.heap [] := va_S.rf
  have hl := lv_entry ([.ref a]) (n := 1) (Nat.le_of_ble_eq_true rfl)
  rw [lg_entry_eq]
  generalize (lg_sl ([.ref a]) ++ List.replicate (1 - (lg_sl ([.ref a])).length) Slot.unset).toArray = ls at hl ⊢
  have hl : lv_has ls 1 [(0, .ref a)] := hl
  have hAa : (fun q => q = a) a := rfl
  refine lv_aload_n hx hb d_AbL_init_0 rfl (lv_at hl 0 rfl) ?_
  refine z_callQ (va_runI (As := []) (rest := []) ⟨hx, hb, hml, hown, hts⟩ (c_AbC_init l D dT _ a) ⟨callB_of 0 hts (gI gd_up gd_c q39) rfl rfl rfl (ht _ q2) (ht _ q37) hd_AbC_init ⟨Nat.le_of_ble_eq_true rfl, Nat.le_of_ble_eq_true rfl⟩, rfl, ht _ q38⟩ (z_preS hK) rfl rfl hl.1 rfl (lv_room (Nat.le_of_ble_eq_true rfl)) d_AbL_init_1 ⟨(Nat.le_of_ble_eq_true rfl), (Nat.le_of_ble_eq_true rfl)⟩) hS (fun _ h9 => h9.elim) (fun v2 H locs hv1 hz3 hf4 hS => ?_)
  obtain ⟨rfl, rfl⟩ := hv1
  refine W.eq (g2 := F0 m 4 ls []) rfl ?_
  refine lv_aload_n hx hb d_AbL_init_4 rfl (lv_at hl 0 rfl) ?_
  refine lv_iconst (v := 0) hx hb d_AbL_init_5 (by decide) ?_
  refine z_putf (ci := 9) (C := "java/util/ArrayList") (T := T_AL) (N := 3) hx hb ht in_AL ty_AL tyk_AL nm_AL hown hK hS hAa oa rfl 0 (by decide) (ht _ q45) (fun _ h9 => h9) rfl rfl rfl (Nat.le_of_ble_eq_true rfl) d_AbL_init_6 (fun H locs oa hz5 ho6 hS => ?_)
  have oa : va_at D cls (a, .inr (9, [.int 0, .null, .int 0])) H := oa
  exact z_vretQ hx hb hr hlocks d_AbL_init_9 hS (Nat.le_of_ble_eq_true rfl) (Nat.le_of_ble_eq_true rfl) ⟨rfl, oa⟩
abbrev b_AL_init : ByteArray := prog_20_method_2_code
abbrev y_AL_init : MethodName := ⟨"java/util/ArrayList", "<init>", "()V"⟩
abbrev w_AL_init : List Cond := .code y_AL_init b_AL_init 1 (Option.none : Option FieldType) :: gt
theorem hd_AL_init : (y_AL_init).cls ≠ "java/lang/invoke/MethodHandle" ∧ (y_AL_init).cls ≠ "java/lang/invoke/VarHandle" ∧ (parseMethodDescriptor (y_AL_init).desc).map (fun d => d.parameters.length) = some 0 := by decide +kernel
theorem d_AL_init_0 : decode b_AL_init 0 = .ok (.aload_n 0, 1) := by decide +kernel
theorem d_AL_init_1 : decode b_AL_init 1 = .ok (.invokespecial 1, 3) := by decide +kernel
theorem d_AL_init_4 : decode b_AL_init 4 = .ok (.aload_n 0, 1) := by decide +kernel
theorem d_AL_init_5 : decode b_AL_init 5 = .ok (.getstatic 39, 3) := by decide +kernel
theorem d_AL_init_8 : decode b_AL_init 8 = .ok (.putfield 9, 3) := by decide +kernel
theorem d_AL_init_11 : decode b_AL_init 11 = .ok (.return_, 1) := by decide +kernel
set_option maxHeartbeats 4000000 in
set_option maxRecDepth 100000 in
theorem c_AL_init (l : Launch) (D : va_G) (dT : Nat → ClassId) (H : Heap) (dd : Nat) (zA : Nat → Prop) (a : Nat) (oa : va_at D cls (a, .inr (9, [.int 0, .null, .int 0])) H) (hza : zA a) : Met l y_AL_init w_AL_init ({ frames := 3, cells := 0, slots := 0, locals := 60 }) (z_PZ D dT [.ref a] H dd zA) (z_Q (fun q => q = a) (fun v H1 => v = none ∧ va_at D cls (a, .inr (9, [.int 0, .ref dd, .int 0])) H1)) 0 0 (fun q => q = a) := by
  refine Met.ofW (cc := b_AL_init) (maxL := 1) (ret := (Option.none : Option FieldType)) (by decide) rfl ?_
  intro p e s m args below meth c s₁ B hml hv
  obtain ⟨rfl, rfl, hK, hZ⟩ := hv
  have hx := B.exec
  have hb := B.bytes
  have hr := B.returns
  have hts := atoms_spec (ws := w_AL_init) B.pre
  have ht : ∀ w9 ∈ gt, w9.before [.ref a].toArray s = true := fun w9 h => hts w9 (List.mem_cons_of_mem _ h)
  have hown : s.vm.findClass "java/util/ArrayList" = some m.cls := findClass_of_methodNamed B.named
  have hlocks := B.notSynchronized
  have hin : meth.name = "<init>" := (name_of_methodNamed B.named B.method).1
  have hS : va_S (fun q => q = a) s.heap s.heap [] := va_S.rf
  have hl := lv_entry ([.ref a]) (n := 1) (Nat.le_of_ble_eq_true rfl)
  rw [lg_entry_eq]
  generalize (lg_sl ([.ref a]) ++ List.replicate (1 - (lg_sl ([.ref a])).length) Slot.unset).toArray = ls at hl ⊢
  have hl : lv_has ls 1 [(0, .ref a)] := hl
  have hAa : (fun q => q = a) a := rfl
  have hAz : ∀ q, (fun q => q = a) q → zA q := fun q h9 => by rw [show q = a from h9]; exact hza
  refine lv_aload_n hx hb d_AL_init_0 rfl (lv_at hl 0 rfl) ?_
  refine z_callQ (va_runI (As := []) (rest := []) ⟨hx, hb, hml, hown, hts⟩ (c_AbL_init l D dT _ a oa) ⟨callB_of 0 hts (gI gd_up gd_c q36) rfl rfl rfl (ht _ q3) (ht _ q34) hd_AbL_init ⟨Nat.le_of_ble_eq_true rfl, Nat.le_of_ble_eq_true rfl⟩, rfl, ht _ q35⟩ (z_preS hK) rfl rfl hl.1 rfl (lv_room (Nat.le_of_ble_eq_true rfl)) d_AL_init_1 ⟨(Nat.le_of_ble_eq_true rfl), (Nat.le_of_ble_eq_true rfl)⟩) hS (fun _ h9 => h9) (fun v2 H locs hv1 hz3 hf4 hS => ?_)
  obtain ⟨rfl, oa⟩ := hv1
  refine W.eq (g2 := F0 m 4 ls []) rfl ?_
  refine lv_aload_n hx hb d_AL_init_4 rfl (lv_at hl 0 rfl) ?_
  refine va_gets hx hb (hZ.1.narrow hAz) hS hown (ht _ q41) (fun _ h9 => h9) d_AL_init_5 ?_
  refine z_putf (ci := 9) (C := "java/util/ArrayList") (T := T_AL) (N := 3) hx hb ht in_AL ty_AL tyk_AL nm_AL hown hK hS hAa oa rfl 1 (by decide) (ht _ q43) (fun _ h9 => h9) rfl rfl rfl (Nat.le_of_ble_eq_true rfl) d_AL_init_8 (fun H locs oa hz5 ho6 hS => ?_)
  have oa : va_at D cls (a, .inr (9, [.int 0, .ref dd, .int 0])) H := oa
  exact z_vretQ hx hb hr hlocks d_AL_init_11 hS (Nat.le_of_ble_eq_true rfl) (Nat.le_of_ble_eq_true rfl) ⟨rfl, oa⟩
set_option maxHeartbeats 4000000 in
set_option maxRecDepth 100000 in
theorem c_grow2_0 (l : Launch) (D : va_G) (dT : Nat → ClassId) (H : Heap) (dd : Nat) (zA : Nat → Prop) (li : Nat) (mcn : Int32) (hli : va_at D cls (li, .inr (9, [.int mcn, .ref dd, .int (nI 0)])) H) (hzl : zA li) (hzf : ∀ q, H.size ≤ q → zA q) : Met l y_AL_grow2 w_AL_grow2 ({ frames := 1, cells := 1, slots := 10, locals := 21 }) (z_PZ D dT [.ref li, .int (nI (0 + 1))] H dd zA) (z_Q (fun q => q = li ∨ H.size ≤ q) (fun v H1 => ∃ q, v = some (.ref q) ∧ H.size ≤ q ∧ va_at D cls (li, .inr (9, [.int mcn, .ref q, .int (nI 0)])) H1 ∧ va_at D cls (q, .inl (dT 2, 10, .inr (.inr (.inr (.inr (fun _ => none)))))) H1)) 1 10 (fun q => q = li ∨ H.size ≤ q) := by
  refine Met.ofW (cc := b_AL_grow2) (maxL := 4) (ret := (Option.some (.array (.object "java/lang/Object")))) (by decide) rfl ?_
  intro p e s m args below meth c s₁ B hml hv
  obtain ⟨rfl, rfl, hK, hZ⟩ := hv
  have hx := B.exec
  have hb := B.bytes
  have hr := B.returns
  have hts := atoms_spec (ws := w_AL_grow2) B.pre
  have ht : ∀ w9 ∈ gt, w9.before [.ref li, .int (nI (0 + 1))].toArray s = true := fun w9 h => hts w9 (List.mem_cons_of_mem _ h)
  have hown : s.vm.findClass "java/util/ArrayList" = some m.cls := findClass_of_methodNamed B.named
  have hlocks := B.notSynchronized
  have hS : va_S (fun q => q = li ∨ s.heap.size ≤ q) s.heap s.heap [] := va_S.rf
  have hl := lv_entry ([.ref li, .int (nI (0 + 1))]) (n := 4) (Nat.le_of_ble_eq_true rfl)
  rw [lg_entry_eq]
  generalize (lg_sl ([.ref li, .int (nI (0 + 1))]) ++ List.replicate (4 - (lg_sl ([.ref li, .int (nI (0 + 1))])).length) Slot.unset).toArray = ls at hl ⊢
  have hl : lv_has ls 4 [(0, .ref li), (1, .int (nI (0 + 1)))] := hl
  have hAli : (fun q => q = li ∨ s.heap.size ≤ q) li := Or.inl rfl
  have hAz : ∀ q, (fun q => q = li ∨ s.heap.size ≤ q) q → zA q := fun q h9 => h9.elim (fun e9 => by rw [e9]; exact hzl) (hzf q)
  refine lv_aload_n hx hb d_AL_grow2_0 rfl (lv_at hl 0 rfl) ?_
  refine va_get (D := D) (ci := 9) (v := .ref dd) (C := "java/util/ArrayList") (T := T_AL) (N := 3) hx hb ht in_AL hown hK.1 (z_1 hli) 0 rfl rfl 1 (by decide) (ht _ q43) (fun _ h9 => h9) rfl d_AL_grow2_1 ?_
  refine va_tlen (N := 0) hx hb (hZ.2.narrow hAz) hS (v := nI 0) rfl d_AL_grow2_4 ?_
  refine lv_istore_n (lv' := [(2, .int (nI 0)), (0, .ref li), (1, .int (nI (0 + 1)))]) hx hb d_AL_grow2_5 rfl hl (by decide) rfl (fun ls hl => ?_)
  refine lv_iload_n hx hb d_AL_grow2_6 rfl (lv_at hl 0 rfl) ?_
  refine lv_if_gt (tgt := 20) hx hb d_AL_grow2_7 (by decide) (fun c1 => absurd ((nI_ltI (a := 0) (b := 0) (by omega) (by omega)).mp c1) (by omega)) (fun c1 => ?_)
  refine lv_aload_n hx hb d_AL_grow2_10 rfl (lv_at hl 1 rfl) ?_
  refine va_get (D := D) (ci := 9) (v := .ref dd) (C := "java/util/ArrayList") (T := T_AL) (N := 3) hx hb ht in_AL hown hK.1 (z_1 hli) 0 rfl rfl 1 (by decide) (ht _ q43) (fun _ h9 => h9) rfl d_AL_grow2_11 ?_
  refine va_gets hx hb (hZ.1.narrow hAz) hS hown (ht _ q41) (fun _ h9 => h9) d_AL_grow2_14 ?_
  refine lv_acmp_eq (rx := some dd) (ry := some dd) (tgt := 45) hx hb d_AL_grow2_17 (by decide) (fun _ => ?_) (fun h9 => absurd rfl h9)
  refine lv_aload_n hx hb d_AL_grow2_45 rfl (lv_at hl 1 rfl) ?_
  refine lv_bipush (v := 10) hx hb d_AL_grow2_46 (by decide) ?_
  refine lv_iload_n hx hb d_AL_grow2_48 rfl (lv_at hl 2 rfl) ?_
  refine va_mmax hx hb (hml.trans hl.1.symm) hown (ht _ q141) (ht _ q105) (ht _ q7) (ht _ q106) (Nat.le_of_ble_eq_true rfl) (Nat.le_of_ble_eq_true rfl) (Nat.le_of_ble_eq_true rfl) (Nat.le_of_ble_eq_true rfl) d_AL_grow2_49 ?_
  rw [show ((if 10 < (nI (0 + 1)) then (nI (0 + 1)) else 10) : Int32) = 10 from rfl]
  have hSp := hS
  refine z_newq (C := "java/lang/Object") hx hb hown (ht _ q142) hK (List.mem_of_getElem? (i := 0) rfl) 2 rfl hS 10 rfl (by decide) (Nat.le_of_ble_eq_true rfl) (Nat.le_of_ble_eq_true rfl) d_AL_grow2_52 (fun ad2 H hqad2 hzad2 oad2 hoad2 hS => ?_)
  have neliad2 : li ≠ ad2 := by rw [hqad2]; exact Nat.ne_of_lt hli.lt
  have hli := hli.grew hoad2
  have hgad2 : s.heap.size ≤ ad2 := by rw [hqad2]; exact hSp.1
  have hAad2 : (fun q => q = li ∨ s.heap.size ≤ q) ad2 := (Or.inr hgad2)
  refine lv_dup_x1 hx hb d_AL_grow2_55 rfl rfl ?_
  refine z_putf (ci := 9) (C := "java/util/ArrayList") (T := T_AL) (N := 3) hx hb ht in_AL ty_AL tyk_AL nm_AL hown hK hS hAli hli rfl 1 (by decide) (ht _ q43) (fun _ h9 => h9) rfl rfl rfl (Nat.le_of_ble_eq_true rfl) d_AL_grow2_56 (fun H locs hli hz3 ho4 hS => ?_)
  have hli : va_at D cls (li, .inr (9, [.int mcn, .ref ad2, .int (nI 0)])) H := hli
  have oad2 := oad2.off ho4 (Ne.symm neliad2)
  exact z_aretQ hx hb hr hlocks d_AL_grow2_59 (Or.inr ⟨_, rfl⟩) (Or.inr ⟨_, rfl⟩) hS (Nat.le_of_ble_eq_true rfl) (Nat.le_of_ble_eq_true rfl) ⟨ad2, rfl, hgad2, hli, oad2⟩
set_option maxHeartbeats 4000000 in
set_option maxRecDepth 100000 in
theorem c_grow1_0 (l : Launch) (D : va_G) (dT : Nat → ClassId) (H : Heap) (dd : Nat) (zA : Nat → Prop) (li : Nat) (mcn : Int32) (hli : va_at D cls (li, .inr (9, [.int mcn, .ref dd, .int (nI 0)])) H) (hzl : zA li) (hzf : ∀ q, H.size ≤ q → zA q) : Met l y_AL_grow1 w_AL_grow1 ({ frames := 2, cells := 1, slots := 10, locals := 44 }) (z_PZ D dT [.ref li] H dd zA) (z_Q (fun q => q = li ∨ H.size ≤ q) (fun v H1 => ∃ q, v = some (.ref q) ∧ H.size ≤ q ∧ va_at D cls (li, .inr (9, [.int mcn, .ref q, .int (nI 0)])) H1 ∧ va_at D cls (q, .inl (dT 2, 10, .inr (.inr (.inr (.inr (fun _ => none)))))) H1)) 1 10 (fun q => q = li ∨ H.size ≤ q) := by
  refine Met.ofW (cc := b_AL_grow1) (maxL := 1) (ret := (Option.some (.array (.object "java/lang/Object")))) (by decide) rfl ?_
  intro p e s m args below meth c s₁ B hml hv
  obtain ⟨rfl, rfl, hK, hZ⟩ := hv
  have hx := B.exec
  have hb := B.bytes
  have hr := B.returns
  have hts := atoms_spec (ws := w_AL_grow1) B.pre
  have ht : ∀ w9 ∈ gt, w9.before [.ref li].toArray s = true := fun w9 h => hts w9 (List.mem_cons_of_mem _ h)
  have hown : s.vm.findClass "java/util/ArrayList" = some m.cls := findClass_of_methodNamed B.named
  have hlocks := B.notSynchronized
  have hS : va_S (fun q => q = li ∨ s.heap.size ≤ q) s.heap s.heap [] := va_S.rf
  have hl := lv_entry ([.ref li]) (n := 1) (Nat.le_of_ble_eq_true rfl)
  rw [lg_entry_eq]
  generalize (lg_sl ([.ref li]) ++ List.replicate (1 - (lg_sl ([.ref li])).length) Slot.unset).toArray = ls at hl ⊢
  have hl : lv_has ls 1 [(0, .ref li)] := hl
  have hAli : (fun q => q = li ∨ s.heap.size ≤ q) li := Or.inl rfl
  have hAz : ∀ q, (fun q => q = li ∨ s.heap.size ≤ q) q → zA q := fun q h9 => h9.elim (fun e9 => by rw [e9]; exact hzl) (hzf q)
  refine lv_aload_n hx hb d_AL_grow1_0 rfl (lv_at hl 0 rfl) ?_
  refine lv_aload_n hx hb d_AL_grow1_1 rfl (lv_at hl 0 rfl) ?_
  refine va_get (D := D) (ci := 9) (v := .int (nI 0)) (C := "java/util/ArrayList") (T := T_AL) (N := 3) hx hb ht in_AL hown hK.1 (z_1 hli) 0 rfl rfl 2 (by decide) (ht _ q44) (fun _ h9 => h9) rfl d_AL_grow1_2 ?_
  refine lv_iconst (v := 1) hx hb d_AL_grow1_5 (by decide) ?_
  refine lv_iadd hx hb d_AL_grow1_6 ?_
  rw [show (((nI 0) + 1) : Int32) = nI (0 + 1) from nI_add 0 1]
  refine z_callQ (va_runV (C := "java/util/ArrayList") (As := [.int (nI (0 + 1))]) (rest := []) ⟨hx, hb, hml, hown, hts⟩ (c_grow2_0 l D dT _ dd zA li mcn hli hzl hzf) ⟨callB_of 1 hts (gI gd_up gd_c q100) rfl rfl rfl (ht _ q4) (ht _ q97) hd_AL_grow2 ⟨Nat.le_of_ble_eq_true rfl, Nat.le_of_ble_eq_true rfl⟩, ht _ q99, ht _ qs2⟩ (z_preVZ hK hZ hS hAz (va_recv hK.1 (z_1 hli) (ci := 9) (q0 := 0) rfl rfl)) rfl rfl hl.1 rfl (lv_room (Nat.le_of_ble_eq_true rfl)) d_AL_grow1_7 ⟨(Nat.le_of_ble_eq_true rfl), (Nat.le_of_ble_eq_true rfl)⟩) hS (fun _ h9 => h9) (fun v2 H locs hv1 hz3 hf4 hS => ?_)
  obtain ⟨q9, rfl, hge, hli1, oq9⟩ := hv1
  refine W.eq (g2 := F0 m 10 ls [.ref q9]) rfl ?_
  exact z_aretQ hx hb hr hlocks d_AL_grow1_10 (Or.inr ⟨_, rfl⟩) (Or.inr ⟨_, rfl⟩) hS (Nat.le_of_ble_eq_true rfl) (Nat.le_of_ble_eq_true rfl) ⟨q9, rfl, hge, hli1, oq9⟩
set_option maxHeartbeats 4000000 in
set_option maxRecDepth 100000 in
theorem c_add2_0 (l : Launch) (D : va_G) (dT : Nat → ClassId) (H : Heap) (dd : Nat) (zA : Nat → Prop) (li : Nat) (mcn : Int32) (hli : va_at D cls (li, .inr (9, [.int mcn, .ref dd, .int (nI 0)])) H) (hzl : zA li) (hzf : ∀ q, H.size ≤ q → zA q) (qt : Nat) (fs9 : List Value) (oqt : va_at D cls (qt, .inr (1, fs9)) H) (hq1 : qt ≠ li) : Met l y_AL_add2 w_AL_add2 ({ frames := 3, cells := 1, slots := 10, locals := 64 }) (z_PZ D dT [.ref li, .ref qt, .ref dd, .int (nI 0)] H dd zA) (z_Q (fun q => q = li ∨ H.size ≤ q) (fun v H1 => v = none ∧ ∃ q, H.size ≤ q ∧ va_at D cls (li, .inr (9, [.int mcn, .ref q, .int (nI 1)])) H1 ∧ va_at D cls (q, .inl (dT 2, 10, .inr (.inr (.inr (.inr (va_up (fun _ => none) 0 (some qt))))))) H1)) 1 10 (fun q => q = li ∨ H.size ≤ q) := by
  refine Met.ofW (cc := b_AL_add2) (maxL := 4) (ret := (Option.none : Option FieldType)) (by decide) rfl ?_
  intro p e s m args below meth c s₁ B hml hv
  obtain ⟨rfl, rfl, hK, hZ⟩ := hv
  have hx := B.exec
  have hb := B.bytes
  have hr := B.returns
  have hts := atoms_spec (ws := w_AL_add2) B.pre
  have ht : ∀ w9 ∈ gt, w9.before [.ref li, .ref qt, .ref dd, .int (nI 0)].toArray s = true := fun w9 h => hts w9 (List.mem_cons_of_mem _ h)
  have hown : s.vm.findClass "java/util/ArrayList" = some m.cls := findClass_of_methodNamed B.named
  have hlocks := B.notSynchronized
  have hS : va_S (fun q => q = li ∨ s.heap.size ≤ q) s.heap s.heap [] := va_S.rf
  have hl := lv_entry ([.ref li, .ref qt, .ref dd, .int (nI 0)]) (n := 4) (Nat.le_of_ble_eq_true rfl)
  rw [lg_entry_eq]
  generalize (lg_sl ([.ref li, .ref qt, .ref dd, .int (nI 0)]) ++ List.replicate (4 - (lg_sl ([.ref li, .ref qt, .ref dd, .int (nI 0)])).length) Slot.unset).toArray = ls at hl ⊢
  have hl : lv_has ls 4 [(0, .ref li), (1, .ref qt), (2, .ref dd), (3, .int (nI 0))] := hl
  have hAli : (fun q => q = li ∨ s.heap.size ≤ q) li := Or.inl rfl
  have hAz : ∀ q, (fun q => q = li ∨ s.heap.size ≤ q) q → zA q := fun q h9 => h9.elim (fun e9 => by rw [e9]; exact hzl) (hzf q)
  refine lv_iload_n hx hb d_AL_add2_0 rfl (lv_at hl 3 rfl) ?_
  refine lv_aload_n hx hb d_AL_add2_1 rfl (lv_at hl 2 rfl) ?_
  refine va_tlen (N := 0) hx hb (hZ.2.narrow hAz) hS (v := nI 0) rfl d_AL_add2_2 ?_
  refine lv_icmp_ne (tgt := 11) hx hb d_AL_add2_3 (by decide) (fun c1 => absurd (show nI 0 = nI 0 from rfl) c1) (fun c1 => ?_)
  refine lv_aload_n hx hb d_AL_add2_6 rfl (lv_at hl 0 rfl) ?_
  refine z_callQ (va_runV (C := "java/util/ArrayList") (As := []) (rest := []) ⟨hx, hb, hml, hown, hts⟩ (c_grow1_0 l D dT _ dd zA li mcn hli hzl hzf) ⟨callB_of 0 hts (gI gd_up gd_c q96) rfl rfl rfl (ht _ q4) (ht _ q93) hd_AL_grow1 ⟨Nat.le_of_ble_eq_true rfl, Nat.le_of_ble_eq_true rfl⟩, ht _ q95, ht _ qs1⟩ (z_preVZ hK hZ hS hAz (va_recv hK.1 (z_1 hli) (ci := 9) (q0 := 0) rfl rfl)) rfl rfl hl.1 rfl (lv_room (Nat.le_of_ble_eq_true rfl)) d_AL_add2_7 ⟨(Nat.le_of_ble_eq_true rfl), (Nat.le_of_ble_eq_true rfl)⟩) hS (fun _ h9 => h9) (fun v3 H locs hv2 hz4 hf5 hS => ?_)
  obtain ⟨q9, rfl, hge, hli1, oq9⟩ := hv2
  refine W.eq (g2 := F0 m 10 ls [.ref q9]) rfl ?_
  have oqt0 := oqt
  have oqt := oqt.kept (hf5 _ oqt.lt (fun h9 => h9.elim hq1 (Nat.not_le.mpr oqt.lt)))
  have hneq : li ≠ q9 := Nat.ne_of_lt (Nat.lt_of_lt_of_le hli.lt hge)
  have hneq2 : qt ≠ q9 := Nat.ne_of_lt (Nat.lt_of_lt_of_le oqt0.lt hge)
  have hAq9 : (fun q => q = li ∨ s.heap.size ≤ q) q9 := Or.inr hge
  refine lv_astore_n (lv' := [(2, .ref q9), (0, .ref li), (1, .ref qt), (3, .int (nI 0))]) hx hb d_AL_add2_10 rfl hl (by decide) rfl (fun ls hl => ?_)
  refine lv_aload_n hx hb d_AL_add2_11 rfl (lv_at hl 0 rfl) ?_
  refine lv_iload_n hx hb d_AL_add2_12 rfl (lv_at hl 3 rfl) ?_
  refine lv_aload_n hx hb d_AL_add2_13 rfl (lv_at hl 2 rfl) ?_
  refine z_aas hx hb hK hS hAq9 oq9 rfl (z_anyT hK oqt) 0 rfl (by omega) (by omega) d_AL_add2_14 (fun H locs oq9 hz6 ho7 hS => ?_)
  have hli1 := hli1.off ho7 hneq
  have oqt := oqt.off ho7 hneq2
  refine lv_aload_n hx hb d_AL_add2_15 rfl (lv_at hl 1 rfl) ?_
  refine lv_iload_n hx hb d_AL_add2_16 rfl (lv_at hl 3 rfl) ?_
  refine lv_iconst (v := 1) hx hb d_AL_add2_17 (by decide) ?_
  refine lv_iadd hx hb d_AL_add2_18 ?_
  rw [show (((nI 0) + 1) : Int32) = nI (0 + 1) from nI_add 0 1]
  refine z_putf (ci := 9) (C := "java/util/ArrayList") (T := T_AL) (N := 3) hx hb ht in_AL ty_AL tyk_AL nm_AL hown hK hS hAli hli1 rfl 2 (by decide) (ht _ q44) (fun _ h9 => h9) rfl rfl rfl (Nat.le_of_ble_eq_true rfl) d_AL_add2_19 (fun H locs hli1 hz8 ho9 hS => ?_)
  have hli1 : va_at D cls (li, .inr (9, [.int mcn, .ref q9, .int (nI (0 + 1))])) H := hli1
  have oq9 := oq9.off ho9 (Ne.symm hneq)
  have oqt := oqt.off ho9 hq1
  exact z_vretQ hx hb hr hlocks d_AL_add2_22 hS (Nat.le_of_ble_eq_true rfl) (Nat.le_of_ble_eq_true rfl) ⟨rfl, q9, hge, hli1, oq9⟩
set_option maxHeartbeats 4000000 in
set_option maxRecDepth 100000 in
theorem c_add1_0 (l : Launch) (D : va_G) (dT : Nat → ClassId) (H : Heap) (dd : Nat) (zA : Nat → Prop) (li : Nat) (mcn : Int32) (hli : va_at D cls (li, .inr (9, [.int mcn, .ref dd, .int (nI 0)])) H) (hzl : zA li) (hzf : ∀ q, H.size ≤ q → zA q) (qt : Nat) (fs9 : List Value) (oqt : va_at D cls (qt, .inr (1, fs9)) H) (hq1 : qt ≠ li) : Met l y_AL_add1 w_AL_add1 ({ frames := 4, cells := 1, slots := 10, locals := 87 }) (z_PZ D dT [.ref li, .ref qt] H dd zA) (z_Q (fun q => q = li ∨ H.size ≤ q) (fun v H1 => v = some (.int 1) ∧ ∃ q, H.size ≤ q ∧ va_at D cls (li, .inr (9, [.int (mcn + 1), .ref q, .int (nI 1)])) H1 ∧ va_at D cls (q, .inl (dT 2, 10, .inr (.inr (.inr (.inr (va_up (fun _ => none) 0 (some qt))))))) H1)) 1 10 (fun q => q = li ∨ H.size ≤ q) := by
  refine Met.ofW (cc := b_AL_add1) (maxL := 2) (ret := (Option.some .boolean)) (by decide) rfl ?_
  intro p e s m args below meth c s₁ B hml hv
  obtain ⟨rfl, rfl, hK, hZ⟩ := hv
  have hx := B.exec
  have hb := B.bytes
  have hr := B.returns
  have hts := atoms_spec (ws := w_AL_add1) B.pre
  have ht : ∀ w9 ∈ gt, w9.before [.ref li, .ref qt].toArray s = true := fun w9 h => hts w9 (List.mem_cons_of_mem _ h)
  have hown : s.vm.findClass "java/util/ArrayList" = some m.cls := findClass_of_methodNamed B.named
  have hlocks := B.notSynchronized
  have hS : va_S (fun q => q = li ∨ s.heap.size ≤ q) s.heap s.heap [] := va_S.rf
  have hl := lv_entry ([.ref li, .ref qt]) (n := 2) (Nat.le_of_ble_eq_true rfl)
  rw [lg_entry_eq]
  generalize (lg_sl ([.ref li, .ref qt]) ++ List.replicate (2 - (lg_sl ([.ref li, .ref qt])).length) Slot.unset).toArray = ls at hl ⊢
  have hl : lv_has ls 2 [(0, .ref li), (1, .ref qt)] := hl
  have hAli : (fun q => q = li ∨ s.heap.size ≤ q) li := Or.inl rfl
  have hAz : ∀ q, (fun q => q = li ∨ s.heap.size ≤ q) q → zA q := fun q h9 => h9.elim (fun e9 => by rw [e9]; exact hzl) (hzf q)
  refine lv_aload_n hx hb d_AL_add1_0 rfl (lv_at hl 0 rfl) ?_
  refine lv_dup hx hb d_AL_add1_1 rfl ?_
  refine va_get (D := D) (ci := 9) (v := .int mcn) (C := "java/util/ArrayList") (T := T_AL) (N := 3) hx hb ht in_AL hown hK.1 (z_1 hli) 0 rfl rfl 0 (by decide) (ht _ q46) (u_same (ht _ q47)) rfl d_AL_add1_2 ?_
  refine lv_iconst (v := 1) hx hb d_AL_add1_5 (by decide) ?_
  refine lv_iadd hx hb d_AL_add1_6 ?_
  refine z_putf (ci := 9) (C := "java/util/ArrayList") (T := T_AL) (N := 3) hx hb ht in_AL ty_AL tyk_AL nm_AL hown hK hS hAli hli rfl 0 (by decide) (ht _ q46) (u_same (ht _ q47)) rfl rfl rfl (Nat.le_of_ble_eq_true rfl) d_AL_add1_7 (fun H locs hli hz1 ho2 hS => ?_)
  have hli : va_at D cls (li, .inr (9, [.int (mcn + 1), .ref dd, .int (nI 0)])) H := hli
  have oqt := oqt.off ho2 hq1
  refine lv_aload_n hx hb d_AL_add1_10 rfl (lv_at hl 0 rfl) ?_
  refine lv_aload_n hx hb d_AL_add1_11 rfl (lv_at hl 1 rfl) ?_
  refine lv_aload_n hx hb d_AL_add1_12 rfl (lv_at hl 0 rfl) ?_
  refine va_get (D := D) (ci := 9) (v := .ref dd) (C := "java/util/ArrayList") (T := T_AL) (N := 3) hx hb ht in_AL hown hK.1 (z_1 hli) 0 rfl rfl 1 (by decide) (ht _ q43) (fun _ h9 => h9) rfl d_AL_add1_13 ?_
  refine lv_aload_n hx hb d_AL_add1_16 rfl (lv_at hl 0 rfl) ?_
  refine va_get (D := D) (ci := 9) (v := .int (nI 0)) (C := "java/util/ArrayList") (T := T_AL) (N := 3) hx hb ht in_AL hown hK.1 (z_1 hli) 0 rfl rfl 2 (by decide) (ht _ q44) (fun _ h9 => h9) rfl d_AL_add1_17 ?_
  refine z_callQ (va_runV (C := "java/util/ArrayList") (As := [.ref qt, .ref dd, .int (nI 0)]) (rest := []) ⟨hx, hb, hml, hown, hts⟩ (c_add2_0 l D dT _ dd zA li (mcn + 1) hli hzl (fun q9 h9 => hzf q9 (Nat.le_trans (Nat.le_of_eq hz1.symm) h9)) qt fs9 oqt hq1) ⟨callB_of 3 hts (gI gd_up gd_c q92) rfl rfl rfl (ht _ q4) (ht _ q89) hd_AL_add2 ⟨Nat.le_of_ble_eq_true rfl, Nat.le_of_ble_eq_true rfl⟩, ht _ q91, ht _ qs0⟩ (z_preVZ hK hZ hS hAz (va_recv hK.1 (z_1 hli) (ci := 9) (q0 := 0) rfl rfl)) rfl rfl hl.1 rfl (lv_room (Nat.le_of_ble_eq_true rfl)) d_AL_add1_20 ⟨(Nat.le_of_ble_eq_true rfl), (Nat.le_of_ble_eq_true rfl)⟩) hS (fun _ h9 => h9.imp (fun h => h) (Nat.le_trans (Nat.le_of_eq hz1.symm))) (fun v4 H locs hv3 hz5 hf6 hS => ?_)
  obtain ⟨rfl, q9, hge, hli1, oq9⟩ := hv3
  refine W.eq (g2 := F0 m 23 ls []) rfl ?_
  refine lv_iconst (v := 1) hx hb d_AL_add1_23 (by decide) ?_
  exact z_zretQ hx hb hr hlocks d_AL_add1_24 rfl hS (Nat.le_of_ble_eq_true rfl) (Nat.le_of_ble_eq_true rfl) ⟨rfl, q9, Nat.le_trans (Nat.le_of_eq hz1.symm) hge, hli1, oq9⟩
