abbrev b_M_lay : ByteArray := prog_12_method_27_code
abbrev y_M_lay : MethodName := ⟨"ValueTreesModel", "lay", "(I)V"⟩
abbrev w_M_lay : List Cond := .code y_M_lay b_M_lay 2 (Option.none : Option FieldType) :: gt
theorem hd_M_lay : (y_M_lay).cls ≠ "java/lang/invoke/MethodHandle" ∧ (y_M_lay).cls ≠ "java/lang/invoke/VarHandle" ∧ (parseMethodDescriptor (y_M_lay).desc).map (fun d => d.parameters.length) = some 1 := by decide +kernel
theorem d_M_lay_0 : decode b_M_lay 0 = .ok (.aload_n 0, 1) := by decide +kernel
theorem d_M_lay_1 : decode b_M_lay 1 = .ok (.getfield 98, 3) := by decide +kernel
theorem d_M_lay_4 : decode b_M_lay 4 = .ok (.sipush 400, 3) := by decide +kernel
theorem d_M_lay_7 : decode b_M_lay 7 = .ok (.if_icmp .ge 14, 3) := by decide +kernel
theorem d_M_lay_10 : decode b_M_lay 10 = .ok (.aload_n 0, 1) := by decide +kernel
theorem d_M_lay_11 : decode b_M_lay 11 = .ok (.getfield 29, 3) := by decide +kernel
theorem d_M_lay_14 : decode b_M_lay 14 = .ok (.aload_n 0, 1) := by decide +kernel
theorem d_M_lay_15 : decode b_M_lay 15 = .ok (.getfield 98, 3) := by decide +kernel
theorem d_M_lay_18 : decode b_M_lay 18 = .ok (.iload_n 1, 1) := by decide +kernel
theorem d_M_lay_19 : decode b_M_lay 19 = .ok (.i2b, 1) := by decide +kernel
theorem d_M_lay_20 : decode b_M_lay 20 = .ok (.bastore, 1) := by decide +kernel
theorem d_M_lay_21 : decode b_M_lay 21 = .ok (.aload_n 0, 1) := by decide +kernel
theorem d_M_lay_22 : decode b_M_lay 22 = .ok (.dup, 1) := by decide +kernel
theorem d_M_lay_23 : decode b_M_lay 23 = .ok (.getfield 98, 3) := by decide +kernel
theorem d_M_lay_26 : decode b_M_lay 26 = .ok (.iconst 1, 1) := by decide +kernel
theorem d_M_lay_27 : decode b_M_lay 27 = .ok (.iadd, 1) := by decide +kernel
theorem d_M_lay_28 : decode b_M_lay 28 = .ok (.putfield 98, 3) := by decide +kernel
theorem d_M_lay_31 : decode b_M_lay 31 = .ok (.return_, 1) := by decide +kernel
set_option maxHeartbeats 4000000 in
set_option maxRecDepth 100000 in
theorem c_M_lay (l : Launch) (D : va_G) (dT : Nat → ClassId) (H : Heap) (mm : Nat → Nat) (wd lf rt : Nat → Int32) (tc : Nat) (ty : Nat → Int32) (F : Nat → Nat) (sz : Nat → Int32) (Wk : Nat → Nat) (bs : List Nat) (dg : Nat → Nat) (dc : Nat) (sh : Nat → Nat) (hM : mAt D dT mm wd lf rt tc ty F sz Wk bs.length dg dc sh H) (hW : wAt Wk bs) (n : Nat) (hbl : bs.length < 2000) : Met l y_M_lay w_M_lay ({ frames := 0, cells := 0, slots := 0, locals := 0 }) (z_P D dT [.ref (mm 0), .int (nI n)] H) (z_Q (mA mm) (fun v H1 => v = none ∧ ∃ Wk', wAt Wk' (bs ++ [n % 256]) ∧ mAt D dT mm wd lf rt tc ty F sz Wk' ((bs ++ [n % 256]).length) dg dc sh H1)) 0 0 (mA mm) := by
  refine Met.ofW (cc := b_M_lay) (maxL := 2) (ret := (Option.none : Option FieldType)) (by decide) rfl ?_
  intro p e s m args below meth c s₁ B hml hv
  obtain ⟨rfl, rfl, hK⟩ := hv
  have hx := B.exec
  have hb := B.bytes
  have hr := B.returns
  have hts := atoms_spec (ws := w_M_lay) B.pre
  have ht : ∀ w9 ∈ gt, w9.before [.ref (mm 0), .int (nI n)].toArray s = true := fun w9 h => hts w9 (List.mem_cons_of_mem _ h)
  have hown : s.vm.findClass "ValueTreesModel" = some m.cls := findClass_of_methodNamed B.named
  have hlocks := B.notSynchronized
  have hS : va_S (mA mm) s.heap s.heap [] := va_S.rf
  have hl := lv_entry ([.ref (mm 0), .int (nI n)]) (n := 2) (Nat.le_of_ble_eq_true rfl)
  rw [lg_entry_eq]
  generalize (lg_sl ([.ref (mm 0), .int (nI n)]) ++ List.replicate (2 - (lg_sl ([.ref (mm 0), .int (nI n)])).length) Slot.unset).toArray = ls at hl ⊢
  have hl : lv_has ls 2 [(0, .ref (mm 0)), (1, .int (nI n))] := hl
  refine lv_aload_n hx hb d_M_lay_0 rfl (lv_at hl 0 rfl) ?_
  refine va_get (D := D) (ci := 10) (v := .int (nI bs.length)) (C := "ValueTreesModel") (T := T_M) (N := 12) hx hb ht in_M hown hK.1 hM.1 0 rfl rfl 8 (by decide) (ht _ q547) (fun _ h9 => h9) rfl d_M_lay_1 ?_
  refine lv_sipush (v := 400) hx hb d_M_lay_4 (by decide) ?_
  refine lv_icmp_ge (tgt := 21) hx hb d_M_lay_7 (by decide) (fun c1 => ?_) (fun c1 => ?_)
  · have nc1 : 400 ≤ bs.length := (nI_leI (a := 400) (b := bs.length) (by omega) (by omega)).mp c1
    refine lv_aload_n hx hb d_M_lay_21 rfl (lv_at hl 0 rfl) ?_
    refine lv_dup hx hb d_M_lay_22 rfl ?_
    refine va_get (D := D) (ci := 10) (v := .int (nI bs.length)) (C := "ValueTreesModel") (T := T_M) (N := 12) hx hb ht in_M hown hK.1 hM.1 0 rfl rfl 8 (by decide) (ht _ q547) (fun _ h9 => h9) rfl d_M_lay_23 ?_
    refine lv_iconst (v := 1) hx hb d_M_lay_26 (by decide) ?_
    refine lv_iadd hx hb d_M_lay_27 ?_
    rw [show ((nI bs.length) + 1 : Int32) = nI (bs.length + 1) from nI_add bs.length 1]
    refine m_put_wz hx hb ht hown hK hM hS (ht _ q547) (bs.length + 1) rfl d_M_lay_28 (fun H locs hM hS => ?_)
    have hM : mAt D dT mm wd lf rt tc ty F sz Wk (bs.length + 1) dg dc sh H := hM
    exact z_vretQ hx hb hr hlocks d_M_lay_31 hS (Nat.le_refl _) (Nat.le_refl _) ⟨rfl, Wk, wAt_over hW _ (by omega), by rw [len_app1]; exact hM⟩
  · have nc1 : ¬ 400 ≤ bs.length := fun h9 => c1 ((nI_leI (a := 400) (b := bs.length) (by omega) (by omega)).mpr h9)
    refine lv_aload_n hx hb d_M_lay_10 rfl (lv_at hl 0 rfl) ?_
    refine va_get (D := D) (ci := 10) (v := .ref (mm 7)) (C := "ValueTreesModel") (T := T_M) (N := 12) hx hb ht in_M hown hK.1 hM.1 0 rfl rfl 7 (by decide) (ht _ q546) (fun _ h9 => h9) rfl d_M_lay_11 ?_
    refine lv_aload_n hx hb d_M_lay_14 rfl (lv_at hl 0 rfl) ?_
    refine va_get (D := D) (ci := 10) (v := .int (nI bs.length)) (C := "ValueTreesModel") (T := T_M) (N := 12) hx hb ht in_M hown hK.1 hM.1 0 rfl rfl 8 (by decide) (ht _ q547) (fun _ h9 => h9) rfl d_M_lay_15 ?_
    refine lv_iload_n hx hb d_M_lay_18 rfl (lv_at hl 1 rfl) ?_
    refine lv_i2b (v := (nI n).toInt8.toInt32) hx hb d_M_lay_19 rfl ?_
    refine m_ast_Wk hx hb hK hM hS bs.length rfl (by omega) (n % 256) (by rw [nar_by8, by8_mod]) d_M_lay_20 (fun H locs hM hS => ?_)
    have hM : mAt D dT mm wd lf rt tc ty F sz (updN Wk bs.length (n % 256)) bs.length dg dc sh H := hM
    refine lv_aload_n hx hb d_M_lay_21 rfl (lv_at hl 0 rfl) ?_
    refine lv_dup hx hb d_M_lay_22 rfl ?_
    refine va_get (D := D) (ci := 10) (v := .int (nI bs.length)) (C := "ValueTreesModel") (T := T_M) (N := 12) hx hb ht in_M hown hK.1 hM.1 0 rfl rfl 8 (by decide) (ht _ q547) (fun _ h9 => h9) rfl d_M_lay_23 ?_
    refine lv_iconst (v := 1) hx hb d_M_lay_26 (by decide) ?_
    refine lv_iadd hx hb d_M_lay_27 ?_
    rw [show ((nI bs.length) + 1 : Int32) = nI (bs.length + 1) from nI_add bs.length 1]
    refine m_put_wz hx hb ht hown hK hM hS (ht _ q547) (bs.length + 1) rfl d_M_lay_28 (fun H locs hM hS => ?_)
    have hM : mAt D dT mm wd lf rt tc ty F sz (updN Wk bs.length (n % 256)) (bs.length + 1) dg dc sh H := hM
    exact z_vretQ hx hb hr hlocks d_M_lay_31 hS (Nat.le_refl _) (Nat.le_refl _) ⟨rfl, _, wAt_put hW n, by rw [len_app1]; exact hM⟩
