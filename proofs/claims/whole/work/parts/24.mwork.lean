abbrev b_M_lay : ByteArray := prog_12_method_27_code
abbrev y_M_lay : MethodName := ⟨"ValueTreesModel", "lay", "(I)V"⟩
abbrev w_M_lay : List Cond := .code y_M_lay b_M_lay 2 (Option.none : Option FieldType) :: gt
theorem hd_M_lay : (y_M_lay).cls ≠ "java/lang/invoke/MethodHandle" ∧ (y_M_lay).cls ≠ "java/lang/invoke/VarHandle" ∧ (parseMethodDescriptor (y_M_lay).desc).map (fun d => d.parameters.length) = some 1 := by decide +kernel
theorem d_M_lay_0 : decode b_M_lay 0 = .ok (.aload_n 0, 1) := by decide +kernel
theorem d_M_lay_1 : decode b_M_lay 1 = .ok (.getfield 98, 3) := by decide +kernel
theorem d_M_lay_4 : decode b_M_lay 4 = .ok (.sipush 400, 3) := by decide +kernel
theorem d_M_lay_7 : decode b_M_lay 7 = .ok (.if_icmp .ge 14, 3) := by decide +kernel
theorem d_M_lay_10 : decode b_M_lay 10 = .ok (.aload_n 0, 1) := by decide +kernel
theorem d_M_lay_11 : decode b_M_lay 11 = .ok (.getfield 29, 3) := by decide +kernel
theorem d_M_lay_14 : decode b_M_lay 14 = .ok (.aload_n 0, 1) := by decide +kernel
theorem d_M_lay_15 : decode b_M_lay 15 = .ok (.getfield 98, 3) := by decide +kernel
theorem d_M_lay_18 : decode b_M_lay 18 = .ok (.iload_n 1, 1) := by decide +kernel
theorem d_M_lay_19 : decode b_M_lay 19 = .ok (.i2b, 1) := by decide +kernel
theorem d_M_lay_20 : decode b_M_lay 20 = .ok (.bastore, 1) := by decide +kernel
theorem d_M_lay_21 : decode b_M_lay 21 = .ok (.aload_n 0, 1) := by decide +kernel
theorem d_M_lay_22 : decode b_M_lay 22 = .ok (.dup, 1) := by decide +kernel
theorem d_M_lay_23 : decode b_M_lay 23 = .ok (.getfield 98, 3) := by decide +kernel
theorem d_M_lay_26 : decode b_M_lay 26 = .ok (.iconst 1, 1) := by decide +kernel
theorem d_M_lay_27 : decode b_M_lay 27 = .ok (.iadd, 1) := by decide +kernel
theorem d_M_lay_28 : decode b_M_lay 28 = .ok (.putfield 98, 3) := by decide +kernel
theorem d_M_lay_31 : decode b_M_lay 31 = .ok (.return_, 1) := by decide +kernel
set_option maxHeartbeats 4000000 in
set_option maxRecDepth 100000 in
theorem c_M_lay (l : Launch) (D : va_G) (dT : Nat → ClassId) (H : Heap) (mm : Nat → Nat) (wd lf rt : Nat → Int32) (tc : Nat) (ty : Nat → Int32) (F : Nat → Nat) (sz : Nat → Int32) (Wk : Nat → Nat) (bs : List Nat) (dg : Nat → Nat) (dc : Nat) (sh : Nat → Nat) (hM : mAt D dT mm wd lf rt tc ty F sz Wk bs.length dg dc sh H) (hW : wAt Wk bs) (n : Nat) (hbl : bs.length < 2000) : Met l y_M_lay w_M_lay ({ frames := 0, cells := 0, slots := 0, locals := 0 }) (z_P D dT [.ref (mm 0), .int (nI n)] H) (z_Q (mA mm) (fun v H1 => v = none ∧ ∃ Wk', wAt Wk' (bs ++ [n % 256]) ∧ (∀ k, bs.length + 1 ≤ k → Wk' k = Wk k) ∧ mAt D dT mm wd lf rt tc ty F sz Wk' ((bs ++ [n % 256]).length) dg dc sh H1)) 0 0 (mA mm) := by
  refine Met.ofW (cc := b_M_lay) (maxL := 2) (ret := (Option.none : Option FieldType)) (by decide) rfl ?_
  intro p e s m args below meth c s₁ B hml hv
  obtain ⟨rfl, rfl, hK⟩ := hv
  have hx := B.exec
  have hb := B.bytes
  have hr := B.returns
  have hts := atoms_spec (ws := w_M_lay) B.pre
  have ht : ∀ w9 ∈ gt, w9.before [.ref (mm 0), .int (nI n)].toArray s = true := fun w9 h => hts w9 (List.mem_cons_of_mem _ h)
  have hown : s.vm.findClass "ValueTreesModel" = some m.cls := findClass_of_methodNamed B.named
  have hlocks := B.notSynchronized
  have hS : va_S (mA mm) s.heap s.heap [] := va_S.rf
  have hl := lv_entry ([.ref (mm 0), .int (nI n)]) (n := 2) (Nat.le_of_ble_eq_true rfl)
  rw [lg_entry_eq]
  generalize (lg_sl ([.ref (mm 0), .int (nI n)]) ++ List.replicate (2 - (lg_sl ([.ref (mm 0), .int (nI n)])).length) Slot.unset).toArray = ls at hl ⊢
  have hl : lv_has ls 2 [(0, .ref (mm 0)), (1, .int (nI n))] := hl
  refine lv_aload_n hx hb d_M_lay_0 rfl (lv_at hl 0 rfl) ?_
  refine va_get (D := D) (ci := 10) (v := .int (nI bs.length)) (C := "ValueTreesModel") (T := T_M) (N := 12) hx hb ht in_M hown hK.1 hM.1 0 rfl rfl 8 (by decide) (ht _ q547) (fun _ h9 => h9) rfl d_M_lay_1 ?_
  refine lv_sipush (v := 400) hx hb d_M_lay_4 (by decide) ?_
  refine lv_icmp_ge (tgt := 21) hx hb d_M_lay_7 (by decide) (fun c1 => ?_) (fun c1 => ?_)
  · have nc1 : 400 ≤ bs.length := (nI_leI (a := 400) (b := bs.length) (by omega) (by omega)).mp c1
    refine lv_aload_n hx hb d_M_lay_21 rfl (lv_at hl 0 rfl) ?_
    refine lv_dup hx hb d_M_lay_22 rfl ?_
    refine va_get (D := D) (ci := 10) (v := .int (nI bs.length)) (C := "ValueTreesModel") (T := T_M) (N := 12) hx hb ht in_M hown hK.1 hM.1 0 rfl rfl 8 (by decide) (ht _ q547) (fun _ h9 => h9) rfl d_M_lay_23 ?_
    refine lv_iconst (v := 1) hx hb d_M_lay_26 (by decide) ?_
    refine lv_iadd hx hb d_M_lay_27 ?_
    rw [show (((nI bs.length) + 1) : Int32) = nI (bs.length + 1) from nI_add bs.length 1]
    refine m_put_wz hx hb ht hown hK hM hS (ht _ q547) (bs.length + 1) rfl d_M_lay_28 (fun H locs hM hS => ?_)
    have hM : mAt D dT mm wd lf rt tc ty F sz Wk (bs.length + 1) dg dc sh H := hM
    exact z_vretQ hx hb hr hlocks d_M_lay_31 hS (Nat.le_refl _) (Nat.le_refl _) ⟨rfl, Wk, wAt_over hW _ (by omega), fun _ _ => rfl, by rw [len_app1]; exact hM⟩
  · have nc1 : ¬ 400 ≤ bs.length := fun h9 => c1 ((nI_leI (a := 400) (b := bs.length) (by omega) (by omega)).mpr h9)
    refine lv_aload_n hx hb d_M_lay_10 rfl (lv_at hl 0 rfl) ?_
    refine va_get (D := D) (ci := 10) (v := .ref (mm 7)) (C := "ValueTreesModel") (T := T_M) (N := 12) hx hb ht in_M hown hK.1 hM.1 0 rfl rfl 7 (by decide) (ht _ q546) (fun _ h9 => h9) rfl d_M_lay_11 ?_
    refine lv_aload_n hx hb d_M_lay_14 rfl (lv_at hl 0 rfl) ?_
    refine va_get (D := D) (ci := 10) (v := .int (nI bs.length)) (C := "ValueTreesModel") (T := T_M) (N := 12) hx hb ht in_M hown hK.1 hM.1 0 rfl rfl 8 (by decide) (ht _ q547) (fun _ h9 => h9) rfl d_M_lay_15 ?_
    refine lv_iload_n hx hb d_M_lay_18 rfl (lv_at hl 1 rfl) ?_
    refine lv_i2b (v := (nI n).toInt8.toInt32) hx hb d_M_lay_19 rfl ?_
    refine m_ast_Wk hx hb hK hM hS bs.length rfl (by omega) (n % 256) (by rw [nar_by8, by8_mod]) d_M_lay_20 (fun H locs hM hS => ?_)
    have hM : mAt D dT mm wd lf rt tc ty F sz (updN Wk bs.length (n % 256)) bs.length dg dc sh H := hM
    refine lv_aload_n hx hb d_M_lay_21 rfl (lv_at hl 0 rfl) ?_
    refine lv_dup hx hb d_M_lay_22 rfl ?_
    refine va_get (D := D) (ci := 10) (v := .int (nI bs.length)) (C := "ValueTreesModel") (T := T_M) (N := 12) hx hb ht in_M hown hK.1 hM.1 0 rfl rfl 8 (by decide) (ht _ q547) (fun _ h9 => h9) rfl d_M_lay_23 ?_
    refine lv_iconst (v := 1) hx hb d_M_lay_26 (by decide) ?_
    refine lv_iadd hx hb d_M_lay_27 ?_
    rw [show (((nI bs.length) + 1) : Int32) = nI (bs.length + 1) from nI_add bs.length 1]
    refine m_put_wz hx hb ht hown hK hM hS (ht _ q547) (bs.length + 1) rfl d_M_lay_28 (fun H locs hM hS => ?_)
    have hM : mAt D dT mm wd lf rt tc ty F sz (updN Wk bs.length (n % 256)) (bs.length + 1) dg dc sh H := hM
    exact z_vretQ hx hb hr hlocks d_M_lay_31 hS (Nat.le_refl _) (Nat.le_refl _) ⟨rfl, _, wAt_put hW n, fun k hk => updN_n (by omega), by rw [len_app1]; exact hM⟩
abbrev b_M_putSize : ByteArray := prog_12_method_28_code
abbrev y_M_putSize : MethodName := ⟨"ValueTreesModel", "putSize", "(I)V"⟩
abbrev w_M_putSize : List Cond := .code y_M_putSize b_M_putSize 3 (Option.none : Option FieldType) :: gt
theorem hd_M_putSize : (y_M_putSize).cls ≠ "java/lang/invoke/MethodHandle" ∧ (y_M_putSize).cls ≠ "java/lang/invoke/VarHandle" ∧ (parseMethodDescriptor (y_M_putSize).desc).map (fun d => d.parameters.length) = some 1 := by decide +kernel
theorem d_M_putSize_0 : decode b_M_putSize 0 = .ok (.bipush 24, 2) := by decide +kernel
theorem d_M_putSize_2 : decode b_M_putSize 2 = .ok (.istore_n 2, 1) := by decide +kernel
theorem d_M_putSize_3 : decode b_M_putSize 3 = .ok (.iload_n 2, 1) := by decide +kernel
theorem d_M_putSize_4 : decode b_M_putSize 4 = .ok (.ifCond .lt 16, 3) := by decide +kernel
theorem d_M_putSize_7 : decode b_M_putSize 7 = .ok (.aload_n 0, 1) := by decide +kernel
theorem d_M_putSize_8 : decode b_M_putSize 8 = .ok (.iload_n 1, 1) := by decide +kernel
theorem d_M_putSize_9 : decode b_M_putSize 9 = .ok (.iload_n 2, 1) := by decide +kernel
theorem d_M_putSize_10 : decode b_M_putSize 10 = .ok (.ishr, 1) := by decide +kernel
theorem d_M_putSize_11 : decode b_M_putSize 11 = .ok (.invokevirtual 101, 3) := by decide +kernel
theorem d_M_putSize_14 : decode b_M_putSize 14 = .ok (.iinc 2 (-8), 3) := by decide +kernel
theorem d_M_putSize_17 : decode b_M_putSize 17 = .ok (.goto (-14), 3) := by decide +kernel
theorem d_M_putSize_20 : decode b_M_putSize 20 = .ok (.return_, 1) := by decide +kernel
set_option maxHeartbeats 4000000 in
set_option maxRecDepth 100000 in
theorem c_M_putSize (l : Launch) (D : va_G) (dT : Nat → ClassId) (H : Heap) (mm : Nat → Nat) (wd lf rt : Nat → Int32) (tc : Nat) (ty : Nat → Int32) (F : Nat → Nat) (sz : Nat → Int32) (Wk : Nat → Nat) (bs : List Nat) (dg : Nat → Nat) (dc : Nat) (sh : Nat → Nat) (hM : mAt D dT mm wd lf rt tc ty F sz Wk bs.length dg dc sh H) (hW : wAt Wk bs) (n : Nat) (hn2 : n < 2 ^ 31) (hbl : bs.length < 1000) : Met l y_M_putSize w_M_putSize ({ frames := 1, cells := 0, slots := 0, locals := 21 }) (z_P D dT [.ref (mm 0), .int (nI n)] H) (z_Q (mA mm) (fun v H1 => v = none ∧ ∃ Wk', wAt Wk' (bs ++ size4 n) ∧ (∀ k, bs.length + 4 ≤ k → Wk' k = Wk k) ∧ mAt D dT mm wd lf rt tc ty F sz Wk' ((bs ++ size4 n).length) dg dc sh H1)) 0 0 (mA mm) := by
  refine Met.ofW (cc := b_M_putSize) (maxL := 3) (ret := (Option.none : Option FieldType)) (by decide) rfl ?_
  intro p e s m args below meth c s₁ B hml hv
  obtain ⟨rfl, rfl, hK⟩ := hv
  have hx := B.exec
  have hb := B.bytes
  have hr := B.returns
  have hts := atoms_spec (ws := w_M_putSize) B.pre
  have ht : ∀ w9 ∈ gt, w9.before [.ref (mm 0), .int (nI n)].toArray s = true := fun w9 h => hts w9 (List.mem_cons_of_mem _ h)
  have hown : s.vm.findClass "ValueTreesModel" = some m.cls := findClass_of_methodNamed B.named
  have hlocks := B.notSynchronized
  have hS : va_S (mA mm) s.heap s.heap [] := va_S.rf
  have hl := lv_entry ([.ref (mm 0), .int (nI n)]) (n := 3) (Nat.le_of_ble_eq_true rfl)
  rw [lg_entry_eq]
  generalize (lg_sl ([.ref (mm 0), .int (nI n)]) ++ List.replicate (3 - (lg_sl ([.ref (mm 0), .int (nI n)])).length) Slot.unset).toArray = ls at hl ⊢
  have hl : lv_has ls 3 [(0, .ref (mm 0)), (1, .int (nI n))] := hl
  refine lv_bipush (v := 24) hx hb d_M_putSize_0 (by decide) ?_
  refine lv_istore_n (lv' := [(2, .int 24), (0, .ref (mm 0)), (1, .int (nI n))]) hx hb d_M_putSize_2 rfl hl (by decide) rfl (fun ls hl => ?_)
  refine lv_iload_n hx hb d_M_putSize_3 rfl (lv_at hl 0 rfl) ?_
  refine lv_if_lt (tgt := 20) hx hb d_M_putSize_4 (by decide) (fun c1 => absurd c1 (by decide)) (fun _ => ?_)
  refine lv_aload_n hx hb d_M_putSize_7 rfl (lv_at hl 1 rfl) ?_
  refine lv_iload_n hx hb d_M_putSize_8 rfl (lv_at hl 2 rfl) ?_
  refine lv_iload_n hx hb d_M_putSize_9 rfl (lv_at hl 0 rfl) ?_
  refine lv_ishr hx hb d_M_putSize_10 ?_
  rw [show (nI n >>> ((24 : Int32) &&& 31) : Int32) = nI (n / 16777216) from pk_shrN hn2 _ 24 (by decide)]
  refine z_callQ (va_runV (C := "ValueTreesModel") (As := [.int (nI (n / 16777216))]) (rest := []) ⟨hx, hb, hml, hown, hts⟩ (c_M_lay l D dT _ mm wd lf rt tc ty F sz Wk bs dg dc sh hM hW (n / 16777216) (by (try simp only [List.length_append, List.length_cons, List.length_nil, size4_len]); omega)) ⟨callB_of 1 hts (gI gd_up gd_c q635) rfl rfl rfl (ht _ q10) (ht _ q632) hd_M_lay ⟨Nat.le_of_ble_eq_true rfl, Nat.le_of_ble_eq_true rfl⟩, ht _ q634, ht _ qs22⟩ (z_preV hK (va_recv hK.1 hM.1 (ci := 10) (q0 := 0) rfl rfl)) rfl rfl hl.1 rfl (lv_room (Nat.le_of_ble_eq_true rfl)) d_M_putSize_11 ⟨Nat.le_refl _, Nat.le_refl _⟩) hS (fun _ h9 => h9) (fun v3 H locs hv2 hz4 hf5 hS => ?_)
  obtain ⟨rfl, Wk, hW, hWk6, hM⟩ := hv2
  refine W.eq (g2 := F0 m 14 ls []) rfl ?_
  refine lv_iinc (v := 16) (lv' := [(2, .int 16), (0, .ref (mm 0)), (1, .int (nI n))]) hx hb d_M_putSize_14 hl (k := 0) rfl (by decide) (by decide) rfl (fun ls hl => ?_)
  refine lv_goto (tgt := 3) hx hb d_M_putSize_17 (by decide) ?_
  refine lv_iload_n hx hb d_M_putSize_3 rfl (lv_at hl 0 rfl) ?_
  refine lv_if_lt (tgt := 20) hx hb d_M_putSize_4 (by decide) (fun c7 => absurd c7 (by decide)) (fun _ => ?_)
  refine lv_aload_n hx hb d_M_putSize_7 rfl (lv_at hl 1 rfl) ?_
  refine lv_iload_n hx hb d_M_putSize_8 rfl (lv_at hl 2 rfl) ?_
  refine lv_iload_n hx hb d_M_putSize_9 rfl (lv_at hl 0 rfl) ?_
  refine lv_ishr hx hb d_M_putSize_10 ?_
  rw [show (nI n >>> ((16 : Int32) &&& 31) : Int32) = nI (n / 65536) from pk_shrN hn2 _ 16 (by decide)]
  refine z_callQ (va_runV (C := "ValueTreesModel") (As := [.int (nI (n / 65536))]) (rest := []) ⟨hx, hb, hml, hown, hts⟩ (c_M_lay l D dT _ mm wd lf rt tc ty F sz Wk (bs ++ [(n / 16777216) % 256]) dg dc sh hM hW (n / 65536) (by (try simp only [List.length_append, List.length_cons, List.length_nil, size4_len]); omega)) ⟨callB_of 1 hts (gI gd_up gd_c q635) rfl rfl rfl (ht _ q10) (ht _ q632) hd_M_lay ⟨Nat.le_of_ble_eq_true rfl, Nat.le_of_ble_eq_true rfl⟩, ht _ q634, ht _ qs22⟩ (z_preV hK (va_recv hK.1 hM.1 (ci := 10) (q0 := 0) rfl rfl)) rfl rfl hl.1 rfl (lv_room (Nat.le_of_ble_eq_true rfl)) d_M_putSize_11 ⟨Nat.le_refl _, Nat.le_refl _⟩) hS (fun _ h9 => h9) (fun v9 H locs hv8 hz10 hf11 hS => ?_)
  obtain ⟨rfl, Wk, hW, hWk12, hM⟩ := hv8
  refine W.eq (g2 := F0 m 14 ls []) rfl ?_
  refine lv_iinc (v := 8) (lv' := [(2, .int 8), (0, .ref (mm 0)), (1, .int (nI n))]) hx hb d_M_putSize_14 hl (k := 0) rfl (by decide) (by decide) rfl (fun ls hl => ?_)
  refine lv_goto (tgt := 3) hx hb d_M_putSize_17 (by decide) ?_
  refine lv_iload_n hx hb d_M_putSize_3 rfl (lv_at hl 0 rfl) ?_
  refine lv_if_lt (tgt := 20) hx hb d_M_putSize_4 (by decide) (fun c13 => absurd c13 (by decide)) (fun _ => ?_)
  refine lv_aload_n hx hb d_M_putSize_7 rfl (lv_at hl 1 rfl) ?_
  refine lv_iload_n hx hb d_M_putSize_8 rfl (lv_at hl 2 rfl) ?_
  refine lv_iload_n hx hb d_M_putSize_9 rfl (lv_at hl 0 rfl) ?_
  refine lv_ishr hx hb d_M_putSize_10 ?_
  rw [show (nI n >>> ((8 : Int32) &&& 31) : Int32) = nI (n / 256) from pk_shrN hn2 _ 8 (by decide)]
  refine z_callQ (va_runV (C := "ValueTreesModel") (As := [.int (nI (n / 256))]) (rest := []) ⟨hx, hb, hml, hown, hts⟩ (c_M_lay l D dT _ mm wd lf rt tc ty F sz Wk (bs ++ [(n / 16777216) % 256] ++ [(n / 65536) % 256]) dg dc sh hM hW (n / 256) (by (try simp only [List.length_append, List.length_cons, List.length_nil, size4_len]); omega)) ⟨callB_of 1 hts (gI gd_up gd_c q635) rfl rfl rfl (ht _ q10) (ht _ q632) hd_M_lay ⟨Nat.le_of_ble_eq_true rfl, Nat.le_of_ble_eq_true rfl⟩, ht _ q634, ht _ qs22⟩ (z_preV hK (va_recv hK.1 hM.1 (ci := 10) (q0 := 0) rfl rfl)) rfl rfl hl.1 rfl (lv_room (Nat.le_of_ble_eq_true rfl)) d_M_putSize_11 ⟨Nat.le_refl _, Nat.le_refl _⟩) hS (fun _ h9 => h9) (fun v15 H locs hv14 hz16 hf17 hS => ?_)
  obtain ⟨rfl, Wk, hW, hWk18, hM⟩ := hv14
  refine W.eq (g2 := F0 m 14 ls []) rfl ?_
  refine lv_iinc (v := 0) (lv' := [(2, .int 0), (0, .ref (mm 0)), (1, .int (nI n))]) hx hb d_M_putSize_14 hl (k := 0) rfl (by decide) (by decide) rfl (fun ls hl => ?_)
  refine lv_goto (tgt := 3) hx hb d_M_putSize_17 (by decide) ?_
  refine lv_iload_n hx hb d_M_putSize_3 rfl (lv_at hl 0 rfl) ?_
  refine lv_if_lt (tgt := 20) hx hb d_M_putSize_4 (by decide) (fun c19 => absurd c19 (by decide)) (fun _ => ?_)
  refine lv_aload_n hx hb d_M_putSize_7 rfl (lv_at hl 1 rfl) ?_
  refine lv_iload_n hx hb d_M_putSize_8 rfl (lv_at hl 2 rfl) ?_
  refine lv_iload_n hx hb d_M_putSize_9 rfl (lv_at hl 0 rfl) ?_
  refine lv_ishr hx hb d_M_putSize_10 ?_
  rw [show (nI n >>> ((0 : Int32) &&& 31) : Int32) = nI (n / 1) from pk_shrN hn2 _ 0 (by decide)]
  refine z_callQ (va_runV (C := "ValueTreesModel") (As := [.int (nI (n / 1))]) (rest := []) ⟨hx, hb, hml, hown, hts⟩ (c_M_lay l D dT _ mm wd lf rt tc ty F sz Wk (bs ++ [(n / 16777216) % 256] ++ [(n / 65536) % 256] ++ [(n / 256) % 256]) dg dc sh hM hW (n / 1) (by (try simp only [List.length_append, List.length_cons, List.length_nil, size4_len]); omega)) ⟨callB_of 1 hts (gI gd_up gd_c q635) rfl rfl rfl (ht _ q10) (ht _ q632) hd_M_lay ⟨Nat.le_of_ble_eq_true rfl, Nat.le_of_ble_eq_true rfl⟩, ht _ q634, ht _ qs22⟩ (z_preV hK (va_recv hK.1 hM.1 (ci := 10) (q0 := 0) rfl rfl)) rfl rfl hl.1 rfl (lv_room (Nat.le_of_ble_eq_true rfl)) d_M_putSize_11 ⟨Nat.le_refl _, Nat.le_refl _⟩) hS (fun _ h9 => h9) (fun v21 H locs hv20 hz22 hf23 hS => ?_)
  obtain ⟨rfl, Wk, hW, hWk24, hM⟩ := hv20
  refine W.eq (g2 := F0 m 14 ls []) rfl ?_
  refine lv_iinc (v := (-8)) (lv' := [(2, .int (-8)), (0, .ref (mm 0)), (1, .int (nI n))]) hx hb d_M_putSize_14 hl (k := 0) rfl (by decide) (by decide) rfl (fun ls hl => ?_)
  refine lv_goto (tgt := 3) hx hb d_M_putSize_17 (by decide) ?_
  refine lv_iload_n hx hb d_M_putSize_3 rfl (lv_at hl 0 rfl) ?_
  refine lv_if_lt (tgt := 20) hx hb d_M_putSize_4 (by decide) (fun _ => ?_) (fun c25 => absurd c25 (by decide))
  refine z_vretQ hx hb hr hlocks d_M_putSize_20 hS (Nat.le_refl _) (Nat.le_refl _) ?_
  have e9 : bs ++ [(n / 16777216) % 256] ++ [(n / 65536) % 256] ++ [(n / 256) % 256] ++ [(n / 1) % 256] = bs ++ size4 n := by simp [size4]
  rw [e9] at hW hM
  exact ⟨rfl, Wk, hW, fun k hk => (hWk24 k (by (try simp only [List.length_append, List.length_cons, List.length_nil, size4_len]); omega)).trans ((hWk18 k (by (try simp only [List.length_append, List.length_cons, List.length_nil, size4_len]); omega)).trans ((hWk12 k (by (try simp only [List.length_append, List.length_cons, List.length_nil, size4_len]); omega)).trans (hWk6 k (by (try simp only [List.length_append, List.length_cons, List.length_nil, size4_len]); omega)))), hM⟩
theorem tk_succ {F : Nat → Nat} {a i : Nat} {bs bx : List Nat} (h : i < bx.length) (hf : F (a + i) = bx.getD i 0) (hl : F (a + i) < 256) : bs ++ bx.take i ++ [F (a + i) % 256] = bs ++ bx.take (i + 1) := by
  rw [Nat.mod_eq_of_lt hl, hf, List.append_assoc, List.take_succ, List.getD_eq_getElem?_getD, List.getElem?_eq_getElem h]
  rfl
abbrev b_M_putFrom : ByteArray := prog_12_method_30_code
abbrev y_M_putFrom : MethodName := ⟨"ValueTreesModel", "putFrom", "(II)V"⟩
abbrev w_M_putFrom : List Cond := .code y_M_putFrom b_M_putFrom 4 (Option.none : Option FieldType) :: gt
theorem hd_M_putFrom : (y_M_putFrom).cls ≠ "java/lang/invoke/MethodHandle" ∧ (y_M_putFrom).cls ≠ "java/lang/invoke/VarHandle" ∧ (parseMethodDescriptor (y_M_putFrom).desc).map (fun d => d.parameters.length) = some 2 := by decide +kernel
theorem d_M_putFrom_0 : decode b_M_putFrom 0 = .ok (.iload_n 1, 1) := by decide +kernel
theorem d_M_putFrom_1 : decode b_M_putFrom 1 = .ok (.istore_n 3, 1) := by decide +kernel
theorem d_M_putFrom_2 : decode b_M_putFrom 2 = .ok (.iload_n 3, 1) := by decide +kernel
theorem d_M_putFrom_3 : decode b_M_putFrom 3 = .ok (.iload_n 2, 1) := by decide +kernel
theorem d_M_putFrom_4 : decode b_M_putFrom 4 = .ok (.if_icmp .ge 18, 3) := by decide +kernel
theorem d_M_putFrom_7 : decode b_M_putFrom 7 = .ok (.aload_n 0, 1) := by decide +kernel
theorem d_M_putFrom_8 : decode b_M_putFrom 8 = .ok (.aload_n 0, 1) := by decide +kernel
theorem d_M_putFrom_9 : decode b_M_putFrom 9 = .ok (.iload_n 3, 1) := by decide +kernel
theorem d_M_putFrom_10 : decode b_M_putFrom 10 = .ok (.invokevirtual 72, 3) := by decide +kernel
theorem d_M_putFrom_13 : decode b_M_putFrom 13 = .ok (.invokevirtual 101, 3) := by decide +kernel
theorem d_M_putFrom_16 : decode b_M_putFrom 16 = .ok (.iinc 3 1, 3) := by decide +kernel
theorem d_M_putFrom_19 : decode b_M_putFrom 19 = .ok (.goto (-17), 3) := by decide +kernel
theorem d_M_putFrom_22 : decode b_M_putFrom 22 = .ok (.return_, 1) := by decide +kernel
set_option maxHeartbeats 4000000 in
set_option maxRecDepth 100000 in
theorem c_M_putFrom (l : Launch) (D : va_G) (dT : Nat → ClassId) (H : Heap) (mm : Nat → Nat) (wd lf rt : Nat → Int32) (tc : Nat) (ty : Nat → Int32) (F : Nat → Nat) (sz : Nat → Int32) (Wk : Nat → Nat) (bs : List Nat) (dg : Nat → Nat) (dc : Nat) (sh : Nat → Nat) (hM : mAt D dT mm wd lf rt tc ty F sz Wk bs.length dg dc sh H) (hW : wAt Wk bs) (hF : ∀ k, F k < 256) (a : Nat) (bx : List Nat) (hf : fAt F a bx) (ha : a + bx.length ≤ 2560) (hbl : bs.length + bx.length < 1000) : Met l y_M_putFrom w_M_putFrom ({ frames := 1, cells := 0, slots := 0, locals := 21 }) (z_P D dT [.ref (mm 0), .int (nI a), .int (nI (a + bx.length))] H) (z_Q (mA mm) (fun v H1 => v = none ∧ ∃ Wk', wAt Wk' (bs ++ bx) ∧ mAt D dT mm wd lf rt tc ty F sz Wk' ((bs ++ bx).length) dg dc sh H1)) 0 0 (mA mm) := by
  refine Met.ofW (cc := b_M_putFrom) (maxL := 4) (ret := (Option.none : Option FieldType)) (by decide) rfl ?_
  intro p e s m args below meth c s₁ B hml hv
  obtain ⟨rfl, rfl, hK⟩ := hv
  have hx := B.exec
  have hb := B.bytes
  have hr := B.returns
  have hts := atoms_spec (ws := w_M_putFrom) B.pre
  have ht : ∀ w9 ∈ gt, w9.before [.ref (mm 0), .int (nI a), .int (nI (a + bx.length))].toArray s = true := fun w9 h => hts w9 (List.mem_cons_of_mem _ h)
  have hown : s.vm.findClass "ValueTreesModel" = some m.cls := findClass_of_methodNamed B.named
  have hlocks := B.notSynchronized
  have hS : va_S (mA mm) s.heap s.heap [] := va_S.rf
  have hl := lv_entry ([.ref (mm 0), .int (nI a), .int (nI (a + bx.length))]) (n := 4) (Nat.le_of_ble_eq_true rfl)
  rw [lg_entry_eq]
  generalize (lg_sl ([.ref (mm 0), .int (nI a), .int (nI (a + bx.length))]) ++ List.replicate (4 - (lg_sl ([.ref (mm 0), .int (nI a), .int (nI (a + bx.length))])).length) Slot.unset).toArray = ls at hl ⊢
  have hl : lv_has ls 4 [(0, .ref (mm 0)), (1, .int (nI a)), (2, .int (nI (a + bx.length)))] := hl
  refine lv_iload_n hx hb d_M_putFrom_0 rfl (lv_at hl 1 rfl) ?_
  refine lv_istore_n (lv' := [(3, .int (nI a)), (0, .ref (mm 0)), (1, .int (nI a)), (2, .int (nI (a + bx.length)))]) hx hb d_M_putFrom_1 rfl hl (by decide) rfl (fun ls hl => ?_)
  have hW : wAt Wk (bs ++ bx.take 0) := by rw [List.take_zero, List.append_nil]; exact hW
  have hM : mAt D dT mm wd lf rt tc ty F sz Wk ((bs ++ bx.take 0).length) dg dc sh s.heap := by rw [List.take_zero, List.append_nil]; exact hM
  have loop1 : ∀ (n29 : Nat) (i : Nat), (i ≤ bx.length) → bx.length - i < n29 → ∀ (H : Heap) (locs : List Loc) (Wk : Nat → Nat), wAt Wk (bs ++ bx.take i) → mAt D dT mm wd lf rt tc ty F sz Wk ((bs ++ bx.take i).length) dg dc sh H → va_S (mA mm) s.heap H locs → ∀ (ls : Array Slot), lv_has ls 4 [(3, .int (nI (a + i))), (0, .ref (mm 0)), (1, .int (nI a)), (2, .int (nI (a + bx.length)))] → W p l e (headSpec w_M_putFrom ({ frames := 1, cells := 0, slots := 0, locals := 21 })).room s m [.ref (mm 0), .int (nI a), .int (nI (a + bx.length))].toArray below meth c H locs 0 0 (MQ below (z_Q (mA mm) (fun v H1 => v = none ∧ ∃ Wk', wAt Wk' (bs ++ bx) ∧ mAt D dT mm wd lf rt tc ty F sz Wk' ((bs ++ bx).length) dg dc sh H1)) [.ref (mm 0), .int (nI a), .int (nI (a + bx.length))].toArray s 0 0 (mA mm)) (F0 m 2 ls []) := by
    intro n29
    induction n29 with
    | zero =>
      intro i hi h29
      exact absurd h29 (Nat.not_lt_zero _)
    | succ n29 ih2 =>
      intro i hi h29 H locs Wk hW hM hS ls hl
      have htk : (bx.take i).length = i := by rw [List.length_take]; omega
      refine lv_iload_n hx hb d_M_putFrom_2 rfl (lv_at hl 0 rfl) ?_
      refine lv_iload_n hx hb d_M_putFrom_3 rfl (lv_at hl 3 rfl) ?_
      refine lv_icmp_ge (tgt := 22) hx hb d_M_putFrom_4 (by decide) (fun c2 => ?_) (fun c2 => ?_)
      · have nc2 : (a + bx.length) ≤ (a + i) := (nI_leI (a := (a + bx.length)) (b := (a + i)) (by omega) (by omega)).mp c2
        refine z_vretQ hx hb hr hlocks d_M_putFrom_22 hS (Nat.le_refl _) (Nat.le_refl _) ?_
        have e9 : i = bx.length := by omega
        subst e9
        rw [List.take_length] at hW hM
        exact ⟨rfl, Wk, hW, hM⟩
      · have nc2 : ¬ (a + bx.length) ≤ (a + i) := fun h9 => c2 ((nI_leI (a := (a + bx.length)) (b := (a + i)) (by omega) (by omega)).mpr h9)
        refine lv_aload_n hx hb d_M_putFrom_7 rfl (lv_at hl 1 rfl) ?_
        refine lv_aload_n hx hb d_M_putFrom_8 rfl (lv_at hl 1 rfl) ?_
        refine lv_iload_n hx hb d_M_putFrom_9 rfl (lv_at hl 0 rfl) ?_
        refine z_callR (va_runV (C := "ValueTreesModel") (As := [.int (nI (a + i))]) (rest := [.ref (mm 0)]) ⟨hx, hb, hml, hown, hts⟩ (c_M_byteOf l D dT _ mm wd lf rt tc ty F sz Wk ((bs ++ bx.take i).length) dg dc sh hM (a + i) (by omega) (hF _)) ⟨callB_of 1 hts (gI gd_up gd_c q670) rfl rfl rfl (ht _ q10) (ht _ q667) hd_M_byteOf ⟨Nat.le_of_ble_eq_true rfl, Nat.le_of_ble_eq_true rfl⟩, ht _ q669, ht _ qs29⟩ (z_preV hK (va_recv hK.1 hM.1 (ci := 10) (q0 := 0) rfl rfl)) rfl rfl hl.1 rfl (lv_room (Nat.le_of_ble_eq_true rfl)) d_M_putFrom_10 ⟨Nat.zero_le _, Nat.zero_le _⟩) (fun v4 hv3 => ?_)
        subst hv3
        refine z_callQ (va_runV (C := "ValueTreesModel") (As := [.int (nI (F (a + i)))]) (rest := []) ⟨hx, hb, hml, hown, hts⟩ (c_M_lay l D dT _ mm wd lf rt tc ty F sz Wk (bs ++ bx.take i) dg dc sh hM hW (F (a + i)) (by (try simp only [List.length_append, List.length_cons, List.length_nil, size4_len]); omega)) ⟨callB_of 1 hts (gI gd_up gd_c q635) rfl rfl rfl (ht _ q10) (ht _ q632) hd_M_lay ⟨Nat.le_of_ble_eq_true rfl, Nat.le_of_ble_eq_true rfl⟩, ht _ q634, ht _ qs22⟩ (z_preV hK (va_recv hK.1 hM.1 (ci := 10) (q0 := 0) rfl rfl)) rfl rfl hl.1 rfl (lv_room (Nat.le_of_ble_eq_true rfl)) d_M_putFrom_13 ⟨Nat.le_refl _, Nat.le_refl _⟩) hS (fun _ h9 => h9) (fun v6 H locs hv5 hz7 hf8 hS => ?_)
        obtain ⟨rfl, Wk, hW, hWk9, hM⟩ := hv5
        refine W.eq (g2 := F0 m 16 ls []) rfl ?_
        refine lv_iinc (v := (nI (a + (i + 1)))) (lv' := [(3, .int (nI (a + (i + 1)))), (0, .ref (mm 0)), (1, .int (nI a)), (2, .int (nI (a + bx.length)))]) hx hb d_M_putFrom_16 hl (k := 0) rfl (nI_1 (a + i)) (by decide) rfl (fun ls hl => ?_)
        refine lv_goto (tgt := 2) hx hb d_M_putFrom_19 (by decide) ?_
        have e9 := tk_succ (bs := bs) (by omega) (hf i (by omega)) (hF (a + i))
        rw [e9] at hW hM
        exact ih2 (i + 1) (by omega) (by omega) _ _ Wk hW hM hS ls (lv_sub hl [0, 1, 2, 3] rfl)
  exact loop1 (bx.length + 1) 0 (by omega) (by omega) _ _ Wk hW hM hS ls (lv_sub hl [0, 1, 2, 3] rfl)
