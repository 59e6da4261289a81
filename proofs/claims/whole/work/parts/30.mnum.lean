abbrev b_M_trim : ByteArray := prog_12_method_23_code
abbrev y_M_trim : MethodName := ⟨"ValueTreesModel", "trim", "()V"⟩
abbrev w_M_trim : List Cond := .code y_M_trim b_M_trim 1 (Option.none : Option FieldType) :: gt
theorem hd_M_trim : (y_M_trim).cls ≠ "java/lang/invoke/MethodHandle" ∧ (y_M_trim).cls ≠ "java/lang/invoke/VarHandle" ∧ (parseMethodDescriptor (y_M_trim).desc).map (fun d => d.parameters.length) = some 0 := by decide +kernel
theorem d_M_trim_0 : decode b_M_trim 0 = .ok (.aload_n 0, 1) := by decide +kernel
theorem d_M_trim_1 : decode b_M_trim 1 = .ok (.getfield 85, 3) := by decide +kernel
theorem d_M_trim_4 : decode b_M_trim 4 = .ok (.ifCond .le 30, 3) := by decide +kernel
theorem d_M_trim_7 : decode b_M_trim 7 = .ok (.aload_n 0, 1) := by decide +kernel
theorem d_M_trim_8 : decode b_M_trim 8 = .ok (.getfield 32, 3) := by decide +kernel
theorem d_M_trim_11 : decode b_M_trim 11 = .ok (.aload_n 0, 1) := by decide +kernel
theorem d_M_trim_12 : decode b_M_trim 12 = .ok (.getfield 85, 3) := by decide +kernel
theorem d_M_trim_15 : decode b_M_trim 15 = .ok (.iconst 1, 1) := by decide +kernel
theorem d_M_trim_16 : decode b_M_trim 16 = .ok (.isub, 1) := by decide +kernel
theorem d_M_trim_17 : decode b_M_trim 17 = .ok (.iaload, 1) := by decide +kernel
theorem d_M_trim_18 : decode b_M_trim 18 = .ok (.ifCond .ne 16, 3) := by decide +kernel
theorem d_M_trim_21 : decode b_M_trim 21 = .ok (.aload_n 0, 1) := by decide +kernel
theorem d_M_trim_22 : decode b_M_trim 22 = .ok (.dup, 1) := by decide +kernel
theorem d_M_trim_23 : decode b_M_trim 23 = .ok (.getfield 85, 3) := by decide +kernel
theorem d_M_trim_26 : decode b_M_trim 26 = .ok (.iconst 1, 1) := by decide +kernel
theorem d_M_trim_27 : decode b_M_trim 27 = .ok (.isub, 1) := by decide +kernel
theorem d_M_trim_28 : decode b_M_trim 28 = .ok (.putfield 85, 3) := by decide +kernel
theorem d_M_trim_31 : decode b_M_trim 31 = .ok (.goto (-31), 3) := by decide +kernel
theorem d_M_trim_34 : decode b_M_trim 34 = .ok (.return_, 1) := by decide +kernel
set_option maxHeartbeats 4000000 in
set_option maxRecDepth 100000 in
theorem c_M_trim (l : Launch) (D : va_G) (dT : Nat → ClassId) (H : Heap) (mm : Nat → Nat) (wd lf rt : Nat → Int32) (tc : Nat) (ty : Nat → Int32) (F : Nat → Nat) (sz : Nat → Int32) (Wk : Nat → Nat) (wz : Nat) (dg : Nat → Nat) (dc : Nat) (sh : Nat → Nat) (hM : mAt D dT mm wd lf rt tc ty F sz Wk wz dg dc sh H) (hdc : dc ≤ 140) (hd : ∀ k, k < dc → dg k < 65536) : Met l y_M_trim w_M_trim ({ frames := 0, cells := 0, slots := 0, locals := 0 }) (z_P D dT [.ref (mm 0)] H) (z_Q (mA mm) (fun v H1 => v = none ∧ ∃ dc', dc' ≤ dc ∧ dval dg dc' = dval dg dc ∧ (dc' = 0 ∨ dg (dc' - 1) ≠ 0) ∧ mAt D dT mm wd lf rt tc ty F sz Wk wz dg dc' sh H1)) 0 0 (mA mm) := by
  refine Met.ofW (cc := b_M_trim) (maxL := 1) (ret := (Option.none : Option FieldType)) (by decide) rfl ?_
  intro p e s m args below meth c s₁ B hml hv
  obtain ⟨rfl, rfl, hK⟩ := hv
  have hx := B.exec
  have hb := B.bytes
  have hr := B.returns
  have hts := atoms_spec (ws := w_M_trim) B.pre
  have ht : ∀ w9 ∈ gt, w9.before [.ref (mm 0)].toArray s = true := fun w9 h => hts w9 (List.mem_cons_of_mem _ h)
  have hown : s.vm.findClass "ValueTreesModel" = some m.cls := findClass_of_methodNamed B.named
  have hlocks := B.notSynchronized
  have hS : va_S (mA mm) s.heap s.heap [] := va_S.rf
  have hl := lv_entry ([.ref (mm 0)]) (n := 1) (Nat.le_of_ble_eq_true rfl)
  rw [lg_entry_eq]
  generalize (lg_sl ([.ref (mm 0)]) ++ List.replicate (1 - (lg_sl ([.ref (mm 0)])).length) Slot.unset).toArray = ls at hl ⊢
  have hl : lv_has ls 1 [(0, .ref (mm 0))] := hl
  have loop1 : ∀ (n09 : Nat) (u : Nat), (u ≤ dc) → (dval dg u = dval dg dc) → u < n09 → ∀ (H : Heap) (locs : List Loc) , mAt D dT mm wd lf rt tc ty F sz Wk wz dg u sh H → va_S (mA mm) s.heap H locs → ∀ (ls : Array Slot), lv_has ls 1 [(0, .ref (mm 0))] → W p l e (headSpec w_M_trim ({ frames := 0, cells := 0, slots := 0, locals := 0 })).room s m [.ref (mm 0)].toArray below meth c H locs 0 0 (MQ below (z_Q (mA mm) (fun v H1 => v = none ∧ ∃ dc', dc' ≤ dc ∧ dval dg dc' = dval dg dc ∧ (dc' = 0 ∨ dg (dc' - 1) ≠ 0) ∧ mAt D dT mm wd lf rt tc ty F sz Wk wz dg dc' sh H1)) [.ref (mm 0)].toArray s 0 0 (mA mm)) (F0 m 0 ls []) := by
    intro n09
    induction n09 with
    | zero =>
      intro u hu hv9 h09
      exact absurd h09 (Nat.not_lt_zero _)
    | succ n09 ih0 =>
      intro u hu hv9 h09 H locs   hM hS ls hl
      refine lv_aload_n hx hb d_M_trim_0 rfl (lv_at hl 0 rfl) ?_
      refine va_get (D := D) (ci := 10) (v := .int (nI u)) (C := "ValueTreesModel") (T := T_M) (N := 12) hx hb ht in_M hown hK.1 hM.1 0 rfl rfl 10 (by decide) (ht _ q549) (fun _ h9 => h9) rfl d_M_trim_1 ?_
      refine lv_if_le (tgt := 34) hx hb d_M_trim_4 (by decide) (fun c2 => ?_) (fun c2 => ?_)
      · have nc2 : u ≤ 0 := (nI_leI (a := u) (b := 0) (by omega) (by omega)).mp c2
        exact z_vretQ hx hb hr hlocks d_M_trim_34 hS (Nat.le_refl _) (Nat.le_refl _) ⟨rfl, u, hu, hv9, by omega, hM⟩
      · have nc2 : ¬ u ≤ 0 := fun h9 => c2 ((nI_leI (a := u) (b := 0) (by omega) (by omega)).mpr h9)
        refine lv_aload_n hx hb d_M_trim_7 rfl (lv_at hl 0 rfl) ?_
        refine va_get (D := D) (ci := 10) (v := .ref (mm 8)) (C := "ValueTreesModel") (T := T_M) (N := 12) hx hb ht in_M hown hK.1 hM.1 0 rfl rfl 9 (by decide) (ht _ q548) (fun _ h9 => h9) rfl d_M_trim_8 ?_
        refine lv_aload_n hx hb d_M_trim_11 rfl (lv_at hl 0 rfl) ?_
        have hdu := hd (u - 1) (by omega)
        refine va_get (D := D) (ci := 10) (v := .int (nI u)) (C := "ValueTreesModel") (T := T_M) (N := 12) hx hb ht in_M hown hK.1 hM.1 0 rfl rfl 10 (by decide) (ht _ q549) (fun _ h9 => h9) rfl d_M_trim_12 ?_
        refine lv_iconst (v := 1) hx hb d_M_trim_15 (by decide) ?_
        refine lv_isub hx hb d_M_trim_16 ?_
        rw [show (((nI u) - 1) : Int32) = nI (u - 1) from pk_sub (a := u) (b := 1) (by omega)]
        refine z_iald hx hb hK (hM.1 8 _ rfl) (u - 1) rfl (by omega) (by decide) d_M_trim_17 ?_
        refine lv_if_ne (tgt := 34) hx hb d_M_trim_18 (by decide) (fun c3 => ?_) (fun c3 => ?_)
        · have nc3 : ¬ (dg (u - 1)) = 0 := fun h9 => c3 ((nI_eq (a := (dg (u - 1))) (b := 0) (by omega) (by omega)).mpr h9)
          exact z_vretQ hx hb hr hlocks d_M_trim_34 hS (Nat.le_refl _) (Nat.le_refl _) ⟨rfl, u, hu, hv9, by omega, hM⟩
        · have nc3 : (dg (u - 1)) = 0 := (nI_eq (a := (dg (u - 1))) (b := 0) (by omega) (by omega)).mp c3
          refine lv_aload_n hx hb d_M_trim_21 rfl (lv_at hl 0 rfl) ?_
          refine lv_dup hx hb d_M_trim_22 rfl ?_
          refine va_get (D := D) (ci := 10) (v := .int (nI u)) (C := "ValueTreesModel") (T := T_M) (N := 12) hx hb ht in_M hown hK.1 hM.1 0 rfl rfl 10 (by decide) (ht _ q549) (fun _ h9 => h9) rfl d_M_trim_23 ?_
          refine lv_iconst (v := 1) hx hb d_M_trim_26 (by decide) ?_
          refine lv_isub hx hb d_M_trim_27 ?_
          rw [show (((nI u) - 1) : Int32) = nI (u - 1) from pk_sub (a := u) (b := 1) (by omega)]
          refine m_put_dc hx hb ht hown hK hM hS (ht _ q549) (u - 1) rfl d_M_trim_28 (fun H locs hM hS => ?_)
          have hM : mAt D dT mm wd lf rt tc ty F sz Wk wz dg (u - 1) sh H := hM
          refine lv_goto (tgt := 0) hx hb d_M_trim_31 (by decide) ?_
          exact ih0 (u - 1) (by omega) (by rw [← hv9, show u = u - 1 + 1 by omega]; show dval dg (u - 1) = dval dg (u - 1) + dg (u - 1) * _; rw [nc3, Nat.zero_mul, Nat.add_zero]) (by omega) _ _ hM hS ls (lv_sub hl [0] rfl)
  exact loop1 (dc + 1) dc (Nat.le_refl _) rfl (by omega) _ _ hM hS ls (lv_sub hl [0] rfl)
abbrev b_M_bits : ByteArray := prog_12_method_24_code
abbrev y_M_bits : MethodName := ⟨"ValueTreesModel", "bits", "()I"⟩
abbrev w_M_bits : List Cond := .code y_M_bits b_M_bits 3 (Option.some .int) :: gt
theorem hd_M_bits : (y_M_bits).cls ≠ "java/lang/invoke/MethodHandle" ∧ (y_M_bits).cls ≠ "java/lang/invoke/VarHandle" ∧ (parseMethodDescriptor (y_M_bits).desc).map (fun d => d.parameters.length) = some 0 := by decide +kernel
theorem d_M_bits_0 : decode b_M_bits 0 = .ok (.aload_n 0, 1) := by decide +kernel
theorem d_M_bits_1 : decode b_M_bits 1 = .ok (.getfield 85, 3) := by decide +kernel
theorem d_M_bits_4 : decode b_M_bits 4 = .ok (.ifCond .ne 5, 3) := by decide +kernel
theorem d_M_bits_7 : decode b_M_bits 7 = .ok (.iconst 0, 1) := by decide +kernel
theorem d_M_bits_8 : decode b_M_bits 8 = .ok (.ireturn, 1) := by decide +kernel
theorem d_M_bits_9 : decode b_M_bits 9 = .ok (.bipush 16, 2) := by decide +kernel
theorem d_M_bits_11 : decode b_M_bits 11 = .ok (.aload_n 0, 1) := by decide +kernel
theorem d_M_bits_12 : decode b_M_bits 12 = .ok (.getfield 85, 3) := by decide +kernel
theorem d_M_bits_15 : decode b_M_bits 15 = .ok (.iconst 1, 1) := by decide +kernel
theorem d_M_bits_16 : decode b_M_bits 16 = .ok (.isub, 1) := by decide +kernel
theorem d_M_bits_17 : decode b_M_bits 17 = .ok (.imul, 1) := by decide +kernel
theorem d_M_bits_18 : decode b_M_bits 18 = .ok (.istore_n 1, 1) := by decide +kernel
theorem d_M_bits_19 : decode b_M_bits 19 = .ok (.aload_n 0, 1) := by decide +kernel
theorem d_M_bits_20 : decode b_M_bits 20 = .ok (.getfield 32, 3) := by decide +kernel
theorem d_M_bits_23 : decode b_M_bits 23 = .ok (.aload_n 0, 1) := by decide +kernel
theorem d_M_bits_24 : decode b_M_bits 24 = .ok (.getfield 85, 3) := by decide +kernel
theorem d_M_bits_27 : decode b_M_bits 27 = .ok (.iconst 1, 1) := by decide +kernel
theorem d_M_bits_28 : decode b_M_bits 28 = .ok (.isub, 1) := by decide +kernel
theorem d_M_bits_29 : decode b_M_bits 29 = .ok (.iaload, 1) := by decide +kernel
theorem d_M_bits_30 : decode b_M_bits 30 = .ok (.istore_n 2, 1) := by decide +kernel
theorem d_M_bits_31 : decode b_M_bits 31 = .ok (.iload_n 2, 1) := by decide +kernel
theorem d_M_bits_32 : decode b_M_bits 32 = .ok (.ifCond .le 13, 3) := by decide +kernel
theorem d_M_bits_35 : decode b_M_bits 35 = .ok (.iinc 1 1, 3) := by decide +kernel
theorem d_M_bits_38 : decode b_M_bits 38 = .ok (.iload_n 2, 1) := by decide +kernel
theorem d_M_bits_39 : decode b_M_bits 39 = .ok (.iconst 2, 1) := by decide +kernel
theorem d_M_bits_40 : decode b_M_bits 40 = .ok (.idiv, 1) := by decide +kernel
theorem d_M_bits_41 : decode b_M_bits 41 = .ok (.istore_n 2, 1) := by decide +kernel
theorem d_M_bits_42 : decode b_M_bits 42 = .ok (.goto (-11), 3) := by decide +kernel
theorem d_M_bits_45 : decode b_M_bits 45 = .ok (.iload_n 1, 1) := by decide +kernel
theorem d_M_bits_46 : decode b_M_bits 46 = .ok (.ireturn, 1) := by decide +kernel
set_option maxHeartbeats 4000000 in
set_option maxRecDepth 100000 in
theorem c_M_bits (l : Launch) (D : va_G) (dT : Nat → ClassId) (H : Heap) (mm : Nat → Nat) (wd lf rt : Nat → Int32) (tc : Nat) (ty : Nat → Int32) (F : Nat → Nat) (sz : Nat → Int32) (Wk : Nat → Nat) (wz : Nat) (dg : Nat → Nat) (dc : Nat) (sh : Nat → Nat) (hM : mAt D dT mm wd lf rt tc ty F sz Wk wz dg dc sh H) (hd : ∀ k, k < dc → dg k < 65536) (hdc : dc ≤ 140) (ht9 : dc = 0 ∨ dg (dc - 1) ≠ 0) : Met l y_M_bits w_M_bits ({ frames := 0, cells := 0, slots := 0, locals := 0 }) (z_P D dT [.ref (mm 0)] H) (z_R (fun v => v = .int (nI (nb (dval dg dc))))) 0 0 (fun _ => False) := by
  refine Met.ofW (cc := b_M_bits) (maxL := 3) (ret := (Option.some .int)) (by decide) rfl ?_
  intro p e s m args below meth c s₁ B hml hv
  obtain ⟨rfl, rfl, hK⟩ := hv
  have hx := B.exec
  have hb := B.bytes
  have hr := B.returns
  have hts := atoms_spec (ws := w_M_bits) B.pre
  have ht : ∀ w9 ∈ gt, w9.before [.ref (mm 0)].toArray s = true := fun w9 h => hts w9 (List.mem_cons_of_mem _ h)
  have hown : s.vm.findClass "ValueTreesModel" = some m.cls := findClass_of_methodNamed B.named
  have hlocks := B.notSynchronized
  have hl := lv_entry ([.ref (mm 0)]) (n := 3) (Nat.le_of_ble_eq_true rfl)
  rw [lg_entry_eq]
  generalize (lg_sl ([.ref (mm 0)]) ++ List.replicate (3 - (lg_sl ([.ref (mm 0)])).length) Slot.unset).toArray = ls at hl ⊢
  have hl : lv_has ls 3 [(0, .ref (mm 0))] := hl
  refine lv_aload_n hx hb d_M_bits_0 rfl (lv_at hl 0 rfl) ?_
  refine va_get (D := D) (ci := 10) (v := .int (nI dc)) (C := "ValueTreesModel") (T := T_M) (N := 12) hx hb ht in_M hown hK.1 hM.1 0 rfl rfl 10 (by decide) (ht _ q549) (fun _ h9 => h9) rfl d_M_bits_1 ?_
  refine lv_if_ne (tgt := 9) hx hb d_M_bits_4 (by decide) (fun c1 => ?_) (fun c1 => ?_)
  · have nc1 : ¬ dc = 0 := fun h9 => c1 ((nI_eq (a := dc) (b := 0) (by omega) (by omega)).mpr h9)
    have hd1 := hd (dc - 1) (by omega)
    have h09 : ¬ dc = 0 := by omega
    refine lv_bipush (v := 16) hx hb d_M_bits_9 (by decide) ?_
    refine lv_aload_n hx hb d_M_bits_11 rfl (lv_at hl 0 rfl) ?_
    refine va_get (D := D) (ci := 10) (v := .int (nI dc)) (C := "ValueTreesModel") (T := T_M) (N := 12) hx hb ht in_M hown hK.1 hM.1 0 rfl rfl 10 (by decide) (ht _ q549) (fun _ h9 => h9) rfl d_M_bits_12 ?_
    refine lv_iconst (v := 1) hx hb d_M_bits_15 (by decide) ?_
    refine lv_isub hx hb d_M_bits_16 ?_
    rw [show (((nI dc) - 1) : Int32) = nI (dc - 1) from pk_sub (a := dc) (b := 1) (by omega)]
    refine lv_imul hx hb d_M_bits_17 ?_
    rw [show ((16 * (nI (dc - 1))) : Int32) = nI (16 * (dc - 1)) from pk_mul 16 (dc - 1)]
    refine lv_istore_n (lv' := [(1, .int (nI (16 * (dc - 1)))), (0, .ref (mm 0))]) hx hb d_M_bits_18 rfl hl (by decide) rfl (fun ls hl => ?_)
    refine lv_aload_n hx hb d_M_bits_19 rfl (lv_at hl 1 rfl) ?_
    refine va_get (D := D) (ci := 10) (v := .ref (mm 8)) (C := "ValueTreesModel") (T := T_M) (N := 12) hx hb ht in_M hown hK.1 hM.1 0 rfl rfl 9 (by decide) (ht _ q548) (fun _ h9 => h9) rfl d_M_bits_20 ?_
    refine lv_aload_n hx hb d_M_bits_23 rfl (lv_at hl 1 rfl) ?_
    refine va_get (D := D) (ci := 10) (v := .int (nI dc)) (C := "ValueTreesModel") (T := T_M) (N := 12) hx hb ht in_M hown hK.1 hM.1 0 rfl rfl 10 (by decide) (ht _ q549) (fun _ h9 => h9) rfl d_M_bits_24 ?_
    refine lv_iconst (v := 1) hx hb d_M_bits_27 (by decide) ?_
    refine lv_isub hx hb d_M_bits_28 ?_
    rw [show (((nI dc) - 1) : Int32) = nI (dc - 1) from pk_sub (a := dc) (b := 1) (by omega)]
    refine z_iald hx hb hK (hM.1 8 _ rfl) (dc - 1) rfl (by omega) (by decide) d_M_bits_29 ?_
    refine lv_istore_n (lv' := [(2, .int (nI (dg (dc - 1)))), (1, .int (nI (16 * (dc - 1)))), (0, .ref (mm 0))]) hx hb d_M_bits_30 rfl hl (by decide) rfl (fun ls hl => ?_)
    rw [show nI (dg (dc - 1)) = nI (dg (dc - 1) / 2 ^ 0) by rw [Nat.pow_zero, Nat.div_one]] at hl
    have loop2 : ∀ (n319 : Nat) (k : Nat), (k = 0 ∨ dg (dc - 1) / 2 ^ (k - 1) ≠ 0) → dg (dc - 1) / 2 ^ k < n319 → ∀ (ls : Array Slot), lv_has ls 3 [(1, .int (nI (16 * (dc - 1) + k))), (2, .int (nI (dg (dc - 1) / 2 ^ k))), (0, .ref (mm 0))] → W p l e (headSpec w_M_bits ({ frames := 0, cells := 0, slots := 0, locals := 0 })).room s m [.ref (mm 0)].toArray below meth c s.heap [] 0 0 (MQ below (z_R (fun v => v = .int (nI (nb (dval dg dc))))) [.ref (mm 0)].toArray s 0 0 (fun _ => False)) (F0 m 31 ls []) := by
      intro n319
      induction n319 with
      | zero =>
        intro k hk h319
        exact absurd h319 (Nat.not_lt_zero _)
      | succ n319 ih31 =>
        intro k hk h319  ls hl
        have hq9 : dg (dc - 1) / 2 ^ k ≤ dg (dc - 1) := Nat.div_le_self _ _
        have hq8 : dg (dc - 1) / 2 ^ (k + 1) = dg (dc - 1) / 2 ^ k / 2 := by rw [Nat.pow_succ, Nat.div_div_eq_div_mul]
        refine lv_iload_n hx hb d_M_bits_31 rfl (lv_at hl 1 rfl) ?_
        refine lv_if_le (tgt := 45) hx hb d_M_bits_32 (by decide) (fun c3 => ?_) (fun c3 => ?_)
        · have nc3 : (dg (dc - 1) / 2 ^ k) ≤ 0 := (nI_leI (a := (dg (dc - 1) / 2 ^ k)) (b := 0) (by omega) (by omega)).mp c3
          refine lv_iload_n hx hb d_M_bits_45 rfl (lv_at hl 0 rfl) ?_
          exact z_iretR hx hb hr hlocks d_M_bits_46 (by rw [bits_end hd ht9 h09 (nb_loop nc3 hk)])
        · have nc3 : ¬ (dg (dc - 1) / 2 ^ k) ≤ 0 := fun h9 => c3 ((nI_leI (a := (dg (dc - 1) / 2 ^ k)) (b := 0) (by omega) (by omega)).mpr h9)
          refine lv_iinc (v := (nI (16 * (dc - 1) + (k + 1)))) (lv' := [(1, .int (nI (16 * (dc - 1) + (k + 1)))), (2, .int (nI (dg (dc - 1) / 2 ^ k))), (0, .ref (mm 0))]) hx hb d_M_bits_35 hl (k := 0) rfl (nI_1 (16 * (dc - 1) + k)) (by decide) rfl (fun ls hl => ?_)
          refine lv_iload_n hx hb d_M_bits_38 rfl (lv_at hl 1 rfl) ?_
          refine lv_iconst (v := 2) hx hb d_M_bits_39 (by decide) ?_
          refine lv_idiv hx hb d_M_bits_40 (by decide) ?_
          rw [show (((nI (dg (dc - 1) / 2 ^ k)) / 2) : Int32) = nI (dg (dc - 1) / 2 ^ (k + 1)) from (by rw [hq8]; exact pk_div (a := dg (dc - 1) / 2 ^ k) (d := 2) (by omega) (by decide) (by decide))]
          refine lv_istore_n (lv' := [(2, .int (nI (dg (dc - 1) / 2 ^ (k + 1)))), (1, .int (nI (16 * (dc - 1) + (k + 1)))), (0, .ref (mm 0))]) hx hb d_M_bits_41 rfl hl (by decide) rfl (fun ls hl => ?_)
          refine lv_goto (tgt := 31) hx hb d_M_bits_42 (by decide) ?_
          exact ih31 (k + 1) (Or.inr (by rw [Nat.add_sub_cancel]; exact fun h9 => nc3 (by omega))) (by omega)  ls (lv_sub hl [1, 0, 2] rfl)
    exact loop2 (dg (dc - 1) / 2 ^ 0 + 1) 0 (Or.inl rfl) (by omega)  ls (lv_sub hl [1, 0, 2] rfl)
  · have nc1 : dc = 0 := (nI_eq (a := dc) (b := 0) (by omega) (by omega)).mp c1
    refine lv_iconst (v := 0) hx hb d_M_bits_7 (by decide) ?_
    refine z_iretR hx hb hr hlocks d_M_bits_8 ?_
    have e9 : dc = 0 := nc1
    subst e9
    rfl
abbrev b_M_bitsFrom : ByteArray := prog_12_method_25_code
abbrev y_M_bitsFrom : MethodName := ⟨"ValueTreesModel", "bitsFrom", "(II)I"⟩
abbrev w_M_bitsFrom : List Cond := .code y_M_bitsFrom b_M_bitsFrom 6 (Option.some .int) :: gt
theorem hd_M_bitsFrom : (y_M_bitsFrom).cls ≠ "java/lang/invoke/MethodHandle" ∧ (y_M_bitsFrom).cls ≠ "java/lang/invoke/VarHandle" ∧ (parseMethodDescriptor (y_M_bitsFrom).desc).map (fun d => d.parameters.length) = some 2 := by decide +kernel
theorem d_M_bitsFrom_0 : decode b_M_bitsFrom 0 = .ok (.iconst 0, 1) := by decide +kernel
theorem d_M_bitsFrom_1 : decode b_M_bitsFrom 1 = .ok (.istore_n 3, 1) := by decide +kernel
theorem d_M_bitsFrom_2 : decode b_M_bitsFrom 2 = .ok (.iload_n 2, 1) := by decide +kernel
theorem d_M_bitsFrom_3 : decode b_M_bitsFrom 3 = .ok (.iconst 1, 1) := by decide +kernel
theorem d_M_bitsFrom_4 : decode b_M_bitsFrom 4 = .ok (.isub, 1) := by decide +kernel
theorem d_M_bitsFrom_5 : decode b_M_bitsFrom 5 = .ok (.istore 4, 2) := by decide +kernel
theorem d_M_bitsFrom_7 : decode b_M_bitsFrom 7 = .ok (.iload 4, 2) := by decide +kernel
theorem d_M_bitsFrom_9 : decode b_M_bitsFrom 9 = .ok (.ifCond .lt 37, 3) := by decide +kernel
theorem d_M_bitsFrom_12 : decode b_M_bitsFrom 12 = .ok (.iload_n 1, 1) := by decide +kernel
theorem d_M_bitsFrom_13 : decode b_M_bitsFrom 13 = .ok (.iload 4, 2) := by decide +kernel
theorem d_M_bitsFrom_15 : decode b_M_bitsFrom 15 = .ok (.iadd, 1) := by decide +kernel
theorem d_M_bitsFrom_16 : decode b_M_bitsFrom 16 = .ok (.istore 5, 2) := by decide +kernel
theorem d_M_bitsFrom_18 : decode b_M_bitsFrom 18 = .ok (.iconst 2, 1) := by decide +kernel
theorem d_M_bitsFrom_19 : decode b_M_bitsFrom 19 = .ok (.iload_n 3, 1) := by decide +kernel
theorem d_M_bitsFrom_20 : decode b_M_bitsFrom 20 = .ok (.imul, 1) := by decide +kernel
theorem d_M_bitsFrom_21 : decode b_M_bitsFrom 21 = .ok (.aload_n 0, 1) := by decide +kernel
theorem d_M_bitsFrom_22 : decode b_M_bitsFrom 22 = .ok (.iload 5, 2) := by decide +kernel
theorem d_M_bitsFrom_24 : decode b_M_bitsFrom 24 = .ok (.bipush 16, 2) := by decide +kernel
theorem d_M_bitsFrom_26 : decode b_M_bitsFrom 26 = .ok (.idiv, 1) := by decide +kernel
theorem d_M_bitsFrom_27 : decode b_M_bitsFrom 27 = .ok (.invokevirtual 88, 3) := by decide +kernel
theorem d_M_bitsFrom_30 : decode b_M_bitsFrom 30 = .ok (.iload 5, 2) := by decide +kernel
theorem d_M_bitsFrom_32 : decode b_M_bitsFrom 32 = .ok (.bipush 16, 2) := by decide +kernel
theorem d_M_bitsFrom_34 : decode b_M_bitsFrom 34 = .ok (.irem, 1) := by decide +kernel
theorem d_M_bitsFrom_35 : decode b_M_bitsFrom 35 = .ok (.ishr, 1) := by decide +kernel
theorem d_M_bitsFrom_36 : decode b_M_bitsFrom 36 = .ok (.iconst 1, 1) := by decide +kernel
theorem d_M_bitsFrom_37 : decode b_M_bitsFrom 37 = .ok (.iand, 1) := by decide +kernel
theorem d_M_bitsFrom_38 : decode b_M_bitsFrom 38 = .ok (.iadd, 1) := by decide +kernel
theorem d_M_bitsFrom_39 : decode b_M_bitsFrom 39 = .ok (.istore_n 3, 1) := by decide +kernel
theorem d_M_bitsFrom_40 : decode b_M_bitsFrom 40 = .ok (.iinc 4 (-1), 3) := by decide +kernel
theorem d_M_bitsFrom_43 : decode b_M_bitsFrom 43 = .ok (.goto (-36), 3) := by decide +kernel
theorem d_M_bitsFrom_46 : decode b_M_bitsFrom 46 = .ok (.iload_n 3, 1) := by decide +kernel
theorem d_M_bitsFrom_47 : decode b_M_bitsFrom 47 = .ok (.ireturn, 1) := by decide +kernel
set_option maxHeartbeats 4000000 in
set_option maxRecDepth 100000 in
theorem c_M_bitsFrom (l : Launch) (D : va_G) (dT : Nat → ClassId) (H : Heap) (mm : Nat → Nat) (wd lf rt : Nat → Int32) (tc : Nat) (ty : Nat → Int32) (F : Nat → Nat) (sz : Nat → Int32) (Wk : Nat → Nat) (wz : Nat) (dg : Nat → Nat) (dc : Nat) (sh : Nat → Nat) (hM : mAt D dT mm wd lf rt tc ty F sz Wk wz dg dc sh H) (hd : ∀ k, k < dc → dg k < 65536) (hdc : dc ≤ 140) (f mn : Nat) (hf : f ≤ 1200) (hm : mn ≤ 7) : Met l y_M_bitsFrom w_M_bitsFrom ({ frames := 1, cells := 0, slots := 0, locals := 21 }) (z_P D dT [.ref (mm 0), .int (nI f), .int (nI mn)] H) (z_R (fun v => v = .int (nI (dval dg dc / 2 ^ f % 2 ^ mn)))) 0 0 (fun _ => False) := by
  refine Met.ofW (cc := b_M_bitsFrom) (maxL := 6) (ret := (Option.some .int)) (by decide) rfl ?_
  intro p e s m args below meth c s₁ B hml hv
  obtain ⟨rfl, rfl, hK⟩ := hv
  have hx := B.exec
  have hb := B.bytes
  have hr := B.returns
  have hts := atoms_spec (ws := w_M_bitsFrom) B.pre
  have ht : ∀ w9 ∈ gt, w9.before [.ref (mm 0), .int (nI f), .int (nI mn)].toArray s = true := fun w9 h => hts w9 (List.mem_cons_of_mem _ h)
  have hown : s.vm.findClass "ValueTreesModel" = some m.cls := findClass_of_methodNamed B.named
  have hlocks := B.notSynchronized
  have hl := lv_entry ([.ref (mm 0), .int (nI f), .int (nI mn)]) (n := 6) (Nat.le_of_ble_eq_true rfl)
  rw [lg_entry_eq]
  generalize (lg_sl ([.ref (mm 0), .int (nI f), .int (nI mn)]) ++ List.replicate (6 - (lg_sl ([.ref (mm 0), .int (nI f), .int (nI mn)])).length) Slot.unset).toArray = ls at hl ⊢
  have hl : lv_has ls 6 [(0, .ref (mm 0)), (1, .int (nI f)), (2, .int (nI mn))] := hl
  refine lv_iconst (v := 0) hx hb d_M_bitsFrom_0 (by decide) ?_
  refine lv_istore_n (lv' := [(3, .int 0), (0, .ref (mm 0)), (1, .int (nI f)), (2, .int (nI mn))]) hx hb d_M_bitsFrom_1 rfl hl (by decide) rfl (fun ls hl => ?_)
  refine lv_iload_n hx hb d_M_bitsFrom_2 rfl (lv_at hl 3 rfl) ?_
  refine lv_iconst (v := 1) hx hb d_M_bitsFrom_3 (by decide) ?_
  refine lv_isub hx hb d_M_bitsFrom_4 ?_
  refine lv_istore (lv' := [(4, .int ((nI mn) - 1)), (3, .int 0), (0, .ref (mm 0)), (1, .int (nI f)), (2, .int (nI mn))]) hx hb d_M_bitsFrom_5 hl (by decide) rfl (fun ls hl => ?_)
  have e0 : (0 : Int32) = nI (dval dg dc / 2 ^ (f + mn) % 2 ^ (mn - mn)) := by rw [Nat.sub_self, Nat.pow_zero, Nat.mod_one]; rfl
  rw [e0] at hl
  have loop1 : ∀ (n79 : Nat) (i : Nat), (i ≤ mn) → i < n79 → ∀ (ls : Array Slot), lv_has ls 6 [(4, .int (nI i - 1)), (3, .int (nI (dval dg dc / 2 ^ (f + i) % 2 ^ (mn - i)))), (0, .ref (mm 0)), (1, .int (nI f)), (2, .int (nI mn))] → W p l e (headSpec w_M_bitsFrom ({ frames := 1, cells := 0, slots := 0, locals := 21 })).room s m [.ref (mm 0), .int (nI f), .int (nI mn)].toArray below meth c s.heap [] 0 0 (MQ below (z_R (fun v => v = .int (nI (dval dg dc / 2 ^ f % 2 ^ mn)))) [.ref (mm 0), .int (nI f), .int (nI mn)].toArray s 0 0 (fun _ => False)) (F0 m 7 ls []) := by
    intro n79
    induction n79 with
    | zero =>
      intro i hi h79
      exact absurd h79 (Nat.not_lt_zero _)
    | succ n79 ih7 =>
      intro i hi h79  ls hl
      cases i with
      | zero =>
        rw [show nI 0 - 1 = (-1 : Int32) by decide] at hl
        refine lv_iload hx hb d_M_bitsFrom_7 (lv_at hl 0 rfl) ?_
        refine lv_if_lt (tgt := 46) hx hb d_M_bitsFrom_9 (by decide) (fun _ => ?_) (fun c2 => absurd c2 (by decide))
        refine lv_iload_n hx hb d_M_bitsFrom_46 rfl (lv_at hl 1 rfl) ?_
        exact z_iretR hx hb hr hlocks d_M_bitsFrom_47 rfl
      | succ i =>
        rw [nI_pred] at hl
        have hvl : dval dg dc / 2 ^ (f + (i + 1)) % 2 ^ (mn - (i + 1)) < 128 := Nat.lt_of_lt_of_le (Nat.mod_lt _ (Nat.two_pow_pos _)) (Nat.pow_le_pow_right (n := 2) (by decide) (show mn - (i + 1) ≤ 7 by omega))
        refine lv_iload hx hb d_M_bitsFrom_7 (lv_at hl 0 rfl) ?_
        refine lv_if_lt (tgt := 46) hx hb d_M_bitsFrom_9 (by decide) (fun c3 => absurd c3 (nI_pos (by omega))) (fun c3 => ?_)
        refine lv_iload_n hx hb d_M_bitsFrom_12 rfl (lv_at hl 3 rfl) ?_
        refine lv_iload hx hb d_M_bitsFrom_13 (lv_at hl 0 rfl) ?_
        refine lv_iadd hx hb d_M_bitsFrom_15 ?_
        rw [show (((nI f) + (nI i)) : Int32) = nI (f + i) from nI_add f i]
        refine lv_istore (lv' := [(5, .int (nI (f + i))), (4, .int (nI i)), (3, .int (nI (dval dg dc / 2 ^ (f + (i + 1)) % 2 ^ (mn - (i + 1))))), (0, .ref (mm 0)), (1, .int (nI f)), (2, .int (nI mn))]) hx hb d_M_bitsFrom_16 hl (by decide) rfl (fun ls hl => ?_)
        refine lv_iconst (v := 2) hx hb d_M_bitsFrom_18 (by decide) ?_
        refine lv_iload_n hx hb d_M_bitsFrom_19 rfl (lv_at hl 2 rfl) ?_
        refine lv_imul hx hb d_M_bitsFrom_20 ?_
        rw [show ((2 * (nI (dval dg dc / 2 ^ (f + (i + 1)) % 2 ^ (mn - (i + 1))))) : Int32) = nI (2 * (dval dg dc / 2 ^ (f + (i + 1)) % 2 ^ (mn - (i + 1)))) from pk_mul 2 (dval dg dc / 2 ^ (f + (i + 1)) % 2 ^ (mn - (i + 1)))]
        refine lv_aload_n hx hb d_M_bitsFrom_21 rfl (lv_at hl 3 rfl) ?_
        refine lv_iload hx hb d_M_bitsFrom_22 (lv_at hl 0 rfl) ?_
        refine lv_bipush (v := 16) hx hb d_M_bitsFrom_24 (by decide) ?_
        refine lv_idiv hx hb d_M_bitsFrom_26 (by decide) ?_
        rw [show (((nI (f + i)) / 16) : Int32) = nI ((f + i) / 16) from pk_div (a := (f + i)) (d := 16) (by omega) (by decide) (by decide)]
        refine z_callR (va_runV (C := "ValueTreesModel") (As := [.int (nI ((f + i) / 16))]) (rest := [.int (nI (2 * (dval dg dc / 2 ^ (f + (i + 1)) % 2 ^ (mn - (i + 1)))))]) ⟨hx, hb, hml, hown, hts⟩ (c_M_digitAt l D dT _ mm wd lf rt tc ty F sz Wk wz dg dc sh hM ((f + i) / 16) (by omega) hdc) ⟨callB_of 1 hts (gI gd_up gd_c q643) rfl rfl rfl (ht _ q10) (ht _ q640) hd_M_digitAt ⟨Nat.le_of_ble_eq_true rfl, Nat.le_of_ble_eq_true rfl⟩, ht _ q642, ht _ qs24⟩ (z_preV hK (va_recv hK.1 hM.1 (ci := 10) (q0 := 0) rfl rfl)) rfl rfl hl.1 rfl (lv_room (Nat.le_of_ble_eq_true rfl)) d_M_bitsFrom_27 ⟨Nat.zero_le _, Nat.zero_le _⟩) (fun v5 hv4 => ?_)
        obtain ⟨g6, hg6⟩ : ∃ y, y = (if (f + i) / 16 < dc then dg ((f + i) / 16) else 0) := ⟨_, rfl⟩
        have hv4 : v5 = .int (nI g6) := by rw [hg6]; exact hv4
        subst hv4
        have hg6l : g6 < 65536 := by rw [hg6]; exact dgat hd _
        refine lv_iload hx hb d_M_bitsFrom_30 (lv_at hl 0 rfl) ?_
        refine lv_bipush (v := 16) hx hb d_M_bitsFrom_32 (by decide) ?_
        refine lv_irem hx hb d_M_bitsFrom_34 (by decide) ?_
        rw [show (((nI (f + i)) - (nI (f + i)) / 16 * 16) : Int32) = nI ((f + i) % 16) from pk_rem (a := (f + i)) (d := 16) (by omega) (by decide) (by decide)]
        refine lv_ishr hx hb d_M_bitsFrom_35 ?_
        rw [show (((nI g6) >>> ((nI ((f + i) % 16)) &&& 31)) : Int32) = nI (g6 / 2 ^ ((f + i) % 16)) from nI_shr (n := g6) (r := ((f + i) % 16)) (by omega) (by omega)]
        have hdl := Nat.div_le_self g6 (2 ^ ((f + i) % 16))
        refine lv_iconst (v := 1) hx hb d_M_bitsFrom_36 (by decide) ?_
        refine lv_iand hx hb d_M_bitsFrom_37 ?_
        rw [show (((nI (g6 / 2 ^ ((f + i) % 16))) &&& 1) : Int32) = nI ((g6 / 2 ^ ((f + i) % 16)) % 2) from nI_and1 (n := (g6 / 2 ^ ((f + i) % 16))) (by omega)]
        refine lv_iadd hx hb d_M_bitsFrom_38 ?_
        rw [show (((nI (2 * (dval dg dc / 2 ^ (f + (i + 1)) % 2 ^ (mn - (i + 1))))) + (nI ((g6 / 2 ^ ((f + i) % 16)) % 2))) : Int32) = nI ((2 * (dval dg dc / 2 ^ (f + (i + 1)) % 2 ^ (mn - (i + 1)))) + ((g6 / 2 ^ ((f + i) % 16)) % 2)) from nI_add (2 * (dval dg dc / 2 ^ (f + (i + 1)) % 2 ^ (mn - (i + 1)))) ((g6 / 2 ^ ((f + i) % 16)) % 2)]
        refine lv_istore_n (lv' := [(3, .int (nI ((2 * (dval dg dc / 2 ^ (f + (i + 1)) % 2 ^ (mn - (i + 1)))) + ((g6 / 2 ^ ((f + i) % 16)) % 2)))), (5, .int (nI (f + i))), (4, .int (nI i)), (0, .ref (mm 0)), (1, .int (nI f)), (2, .int (nI mn))]) hx hb d_M_bitsFrom_39 rfl hl (by decide) rfl (fun ls hl => ?_)
        refine lv_iinc (v := (nI i - 1)) (lv' := [(4, .int (nI i - 1)), (3, .int (nI ((2 * (dval dg dc / 2 ^ (f + (i + 1)) % 2 ^ (mn - (i + 1)))) + ((g6 / 2 ^ ((f + i) % 16)) % 2)))), (5, .int (nI (f + i))), (0, .ref (mm 0)), (1, .int (nI f)), (2, .int (nI mn))]) hx hb d_M_bitsFrom_40 hl (k := 2) rfl (by rw [Int32.sub_eq_add_neg]; rfl) (by decide) rfl (fun ls hl => ?_)
        refine lv_goto (tgt := 7) hx hb d_M_bitsFrom_43 (by decide) ?_
        have hbit := dval_bit (q := (f + i) / 16) (r := (f + i) % 16) hd (by omega)
        rw [← hg6, show 16 * ((f + i) / 16) + (f + i) % 16 = f + i by omega] at hbit
        have hst := bit_step (dval dg dc / 2 ^ (f + i)) (mn - (i + 1))
        rw [Nat.div_div_eq_div_mul, ← Nat.pow_succ, show mn - (i + 1) + 1 = mn - i by omega, ← hbit, Nat.succ_eq_add_one, Nat.add_assoc f i 1] at hst
        rw [← hst] at hl
        exact ih7 i (by omega) (by omega)  ls (lv_sub hl [0, 1, 3, 4, 5] rfl)
  exact loop1 (mn + 1) mn (Nat.le_refl _) (by omega)  ls (lv_sub hl [0, 1, 2, 3, 4] rfl)
abbrev b_M_setBits : ByteArray := prog_12_method_22_code
abbrev y_M_setBits : MethodName := ⟨"ValueTreesModel", "setBits", "(III)V"⟩
abbrev w_M_setBits : List Cond := .code y_M_setBits b_M_setBits 6 (Option.none : Option FieldType) :: gt
theorem hd_M_setBits : (y_M_setBits).cls ≠ "java/lang/invoke/MethodHandle" ∧ (y_M_setBits).cls ≠ "java/lang/invoke/VarHandle" ∧ (parseMethodDescriptor (y_M_setBits).desc).map (fun d => d.parameters.length) = some 3 := by decide +kernel
theorem d_M_setBits_0 : decode b_M_setBits 0 = .ok (.iconst 0, 1) := by decide +kernel
theorem d_M_setBits_1 : decode b_M_setBits 1 = .ok (.istore 4, 2) := by decide +kernel
theorem d_M_setBits_3 : decode b_M_setBits 3 = .ok (.iload 4, 2) := by decide +kernel
theorem d_M_setBits_5 : decode b_M_setBits 5 = .ok (.iload_n 2, 1) := by decide +kernel
theorem d_M_setBits_6 : decode b_M_setBits 6 = .ok (.if_icmp .ge 75, 3) := by decide +kernel
theorem d_M_setBits_9 : decode b_M_setBits 9 = .ok (.iload_n 1, 1) := by decide +kernel
theorem d_M_setBits_10 : decode b_M_setBits 10 = .ok (.iload 4, 2) := by decide +kernel
theorem d_M_setBits_12 : decode b_M_setBits 12 = .ok (.iadd, 1) := by decide +kernel
theorem d_M_setBits_13 : decode b_M_setBits 13 = .ok (.istore 5, 2) := by decide +kernel
theorem d_M_setBits_15 : decode b_M_setBits 15 = .ok (.aload_n 0, 1) := by decide +kernel
theorem d_M_setBits_16 : decode b_M_setBits 16 = .ok (.getfield 85, 3) := by decide +kernel
theorem d_M_setBits_19 : decode b_M_setBits 19 = .ok (.iload 5, 2) := by decide +kernel
theorem d_M_setBits_21 : decode b_M_setBits 21 = .ok (.bipush 16, 2) := by decide +kernel
theorem d_M_setBits_23 : decode b_M_setBits 23 = .ok (.idiv, 1) := by decide +kernel
theorem d_M_setBits_24 : decode b_M_setBits 24 = .ok (.if_icmp .gt 26, 3) := by decide +kernel
theorem d_M_setBits_27 : decode b_M_setBits 27 = .ok (.aload_n 0, 1) := by decide +kernel
theorem d_M_setBits_28 : decode b_M_setBits 28 = .ok (.getfield 32, 3) := by decide +kernel
theorem d_M_setBits_31 : decode b_M_setBits 31 = .ok (.aload_n 0, 1) := by decide +kernel
theorem d_M_setBits_32 : decode b_M_setBits 32 = .ok (.getfield 85, 3) := by decide +kernel
theorem d_M_setBits_35 : decode b_M_setBits 35 = .ok (.iconst 0, 1) := by decide +kernel
theorem d_M_setBits_36 : decode b_M_setBits 36 = .ok (.iastore, 1) := by decide +kernel
theorem d_M_setBits_37 : decode b_M_setBits 37 = .ok (.aload_n 0, 1) := by decide +kernel
theorem d_M_setBits_38 : decode b_M_setBits 38 = .ok (.dup, 1) := by decide +kernel
theorem d_M_setBits_39 : decode b_M_setBits 39 = .ok (.getfield 85, 3) := by decide +kernel
theorem d_M_setBits_42 : decode b_M_setBits 42 = .ok (.iconst 1, 1) := by decide +kernel
theorem d_M_setBits_43 : decode b_M_setBits 43 = .ok (.iadd, 1) := by decide +kernel
theorem d_M_setBits_44 : decode b_M_setBits 44 = .ok (.putfield 85, 3) := by decide +kernel
theorem d_M_setBits_47 : decode b_M_setBits 47 = .ok (.goto (-32), 3) := by decide +kernel
theorem d_M_setBits_50 : decode b_M_setBits 50 = .ok (.aload_n 0, 1) := by decide +kernel
theorem d_M_setBits_51 : decode b_M_setBits 51 = .ok (.getfield 32, 3) := by decide +kernel
theorem d_M_setBits_54 : decode b_M_setBits 54 = .ok (.iload 5, 2) := by decide +kernel
theorem d_M_setBits_56 : decode b_M_setBits 56 = .ok (.bipush 16, 2) := by decide +kernel
theorem d_M_setBits_58 : decode b_M_setBits 58 = .ok (.idiv, 1) := by decide +kernel
theorem d_M_setBits_59 : decode b_M_setBits 59 = .ok (.dup2, 1) := by decide +kernel
theorem d_M_setBits_60 : decode b_M_setBits 60 = .ok (.iaload, 1) := by decide +kernel
theorem d_M_setBits_61 : decode b_M_setBits 61 = .ok (.iload_n 3, 1) := by decide +kernel
theorem d_M_setBits_62 : decode b_M_setBits 62 = .ok (.iload 4, 2) := by decide +kernel
theorem d_M_setBits_64 : decode b_M_setBits 64 = .ok (.ishr, 1) := by decide +kernel
theorem d_M_setBits_65 : decode b_M_setBits 65 = .ok (.iconst 1, 1) := by decide +kernel
theorem d_M_setBits_66 : decode b_M_setBits 66 = .ok (.iand, 1) := by decide +kernel
theorem d_M_setBits_67 : decode b_M_setBits 67 = .ok (.iload 5, 2) := by decide +kernel
theorem d_M_setBits_69 : decode b_M_setBits 69 = .ok (.bipush 16, 2) := by decide +kernel
theorem d_M_setBits_71 : decode b_M_setBits 71 = .ok (.irem, 1) := by decide +kernel
theorem d_M_setBits_72 : decode b_M_setBits 72 = .ok (.ishl, 1) := by decide +kernel
theorem d_M_setBits_73 : decode b_M_setBits 73 = .ok (.ior, 1) := by decide +kernel
theorem d_M_setBits_74 : decode b_M_setBits 74 = .ok (.iastore, 1) := by decide +kernel
theorem d_M_setBits_75 : decode b_M_setBits 75 = .ok (.iinc 4 1, 3) := by decide +kernel
theorem d_M_setBits_78 : decode b_M_setBits 78 = .ok (.goto (-75), 3) := by decide +kernel
theorem d_M_setBits_81 : decode b_M_setBits 81 = .ok (.return_, 1) := by decide +kernel
set_option maxHeartbeats 4000000 in
set_option maxRecDepth 100000 in
theorem c_M_setBits (l : Launch) (D : va_G) (dT : Nat → ClassId) (H : Heap) (mm : Nat → Nat) (wd lf rt : Nat → Int32) (tc : Nat) (ty : Nat → Int32) (F : Nat → Nat) (sz : Nat → Int32) (Wk : Nat → Nat) (wz : Nat) (dg : Nat → Nat) (dc : Nat) (sh : Nat → Nat) (hM : mAt D dT mm wd lf rt tc ty F sz Wk wz dg dc sh H) (hd : ∀ k, k < dc → dg k < 65536) (hdc : dc ≤ 140) (f mn v : Nat) (hfm : f + mn ≤ 1200) (hm7 : mn ≤ 7) (hv8 : v < 256) (hN : dval dg dc < 2 ^ f) : Met l y_M_setBits w_M_setBits ({ frames := 0, cells := 0, slots := 0, locals := 0 }) (z_P D dT [.ref (mm 0), .int (nI f), .int (nI mn), .int (nI v)] H) (z_Q (mA mm) (fun r H1 => r = none ∧ ∃ dg' dc', (∀ k, k < dc' → dg' k < 65536) ∧ dc' ≤ 140 ∧ dval dg' dc' = dval dg dc + v % 2 ^ mn * 2 ^ f ∧ mAt D dT mm wd lf rt tc ty F sz Wk wz dg' dc' sh H1)) 0 0 (mA mm) := by
  refine Met.ofW (cc := b_M_setBits) (maxL := 6) (ret := (Option.none : Option FieldType)) (by decide) rfl ?_
  intro p e s m args below meth c s₁ B hml hv
  obtain ⟨rfl, rfl, hK⟩ := hv
  have hx := B.exec
  have hb := B.bytes
  have hr := B.returns
  have hts := atoms_spec (ws := w_M_setBits) B.pre
  have ht : ∀ w9 ∈ gt, w9.before [.ref (mm 0), .int (nI f), .int (nI mn), .int (nI v)].toArray s = true := fun w9 h => hts w9 (List.mem_cons_of_mem _ h)
  have hown : s.vm.findClass "ValueTreesModel" = some m.cls := findClass_of_methodNamed B.named
  have hlocks := B.notSynchronized
  have hS : va_S (mA mm) s.heap s.heap [] := va_S.rf
  have hl := lv_entry ([.ref (mm 0), .int (nI f), .int (nI mn), .int (nI v)]) (n := 6) (Nat.le_of_ble_eq_true rfl)
  rw [lg_entry_eq]
  generalize (lg_sl ([.ref (mm 0), .int (nI f), .int (nI mn), .int (nI v)]) ++ List.replicate (6 - (lg_sl ([.ref (mm 0), .int (nI f), .int (nI mn), .int (nI v)])).length) Slot.unset).toArray = ls at hl ⊢
  have hl : lv_has ls 6 [(0, .ref (mm 0)), (1, .int (nI f)), (2, .int (nI mn)), (3, .int (nI v))] := hl
  refine lv_iconst (v := 0) hx hb d_M_setBits_0 (by decide) ?_
  refine lv_istore (lv' := [(4, .int 0), (0, .ref (mm 0)), (1, .int (nI f)), (2, .int (nI mn)), (3, .int (nI v))]) hx hb d_M_setBits_1 hl (by decide) rfl (fun ls hl => ?_)
  obtain ⟨N0, hN0⟩ : ∃ y, y = dval dg dc := ⟨_, rfl⟩
  rw [← hN0] at hN
  have loop1 : ∀ (n39 : Nat) (k : Nat), (k ≤ mn) → mn - k < n39 → ∀ (H : Heap) (locs : List Loc) (eg : Nat → Nat) (ec : Nat), (ec ≤ 140) → (∀ q, q < ec → eg q < 65536) → (dval eg ec = N0 + v % 2 ^ k * 2 ^ f) → mAt D dT mm wd lf rt tc ty F sz Wk wz eg ec sh H → va_S (mA mm) s.heap H locs → ∀ (ls : Array Slot), lv_has ls 6 [(4, .int (nI k)), (0, .ref (mm 0)), (1, .int (nI f)), (2, .int (nI mn)), (3, .int (nI v))] → W p l e (headSpec w_M_setBits ({ frames := 0, cells := 0, slots := 0, locals := 0 })).room s m [.ref (mm 0), .int (nI f), .int (nI mn), .int (nI v)].toArray below meth c H locs 0 0 (MQ below (z_Q (mA mm) (fun r H1 => r = none ∧ ∃ dg' dc', (∀ k, k < dc' → dg' k < 65536) ∧ dc' ≤ 140 ∧ dval dg' dc' = dval dg dc + v % 2 ^ mn * 2 ^ f ∧ mAt D dT mm wd lf rt tc ty F sz Wk wz dg' dc' sh H1)) [.ref (mm 0), .int (nI f), .int (nI mn), .int (nI v)].toArray s 0 0 (mA mm)) (F0 m 3 ls []) := by
    intro n39
    induction n39 with
    | zero =>
      intro k hk h39
      exact absurd h39 (Nat.not_lt_zero _)
    | succ n39 ih3 =>
      intro k hk h39 H locs eg ec hec he hval hM hS ls hl
      refine lv_iload hx hb d_M_setBits_3 (lv_at hl 0 rfl) ?_
      refine lv_iload_n hx hb d_M_setBits_5 rfl (lv_at hl 3 rfl) ?_
      refine lv_icmp_ge (tgt := 81) hx hb d_M_setBits_6 (by decide) (fun c2 => ?_) (fun c2 => ?_)
      · have nc2 : mn ≤ k := (nI_leI (a := mn) (b := k) (by omega) (by omega)).mp c2
        refine z_vretQ hx hb hr hlocks d_M_setBits_81 hS (Nat.le_refl _) (Nat.le_refl _) ?_
        have e9 : k = mn := by omega
        subst e9
        exact ⟨rfl, eg, ec, he, hec, by rw [hval, hN0], hM⟩
      · have nc2 : ¬ mn ≤ k := fun h9 => c2 ((nI_leI (a := mn) (b := k) (by omega) (by omega)).mpr h9)
        refine lv_iload_n hx hb d_M_setBits_9 rfl (lv_at hl 2 rfl) ?_
        refine lv_iload hx hb d_M_setBits_10 (lv_at hl 0 rfl) ?_
        refine lv_iadd hx hb d_M_setBits_12 ?_
        rw [show (((nI f) + (nI k)) : Int32) = nI (f + k) from nI_add f k]
        refine lv_istore (lv' := [(5, .int (nI (f + k))), (4, .int (nI k)), (0, .ref (mm 0)), (1, .int (nI f)), (2, .int (nI mn)), (3, .int (nI v))]) hx hb d_M_setBits_13 hl (by decide) rfl (fun ls hl => ?_)
        have loop3 : ∀ (n159 : Nat) (ec : Nat), (ec ≤ 140) → 141 - ec < n159 → ∀ (H : Heap) (locs : List Loc) (eg : Nat → Nat), (∀ q, q < ec → eg q < 65536) → (dval eg ec = N0 + v % 2 ^ k * 2 ^ f) → mAt D dT mm wd lf rt tc ty F sz Wk wz eg ec sh H → va_S (mA mm) s.heap H locs → ∀ (ls : Array Slot), lv_has ls 6 [(5, .int (nI (f + k))), (4, .int (nI k)), (0, .ref (mm 0)), (1, .int (nI f)), (2, .int (nI mn)), (3, .int (nI v))] → W p l e (headSpec w_M_setBits ({ frames := 0, cells := 0, slots := 0, locals := 0 })).room s m [.ref (mm 0), .int (nI f), .int (nI mn), .int (nI v)].toArray below meth c H locs 0 0 (MQ below (z_Q (mA mm) (fun r H1 => r = none ∧ ∃ dg' dc', (∀ k, k < dc' → dg' k < 65536) ∧ dc' ≤ 140 ∧ dval dg' dc' = dval dg dc + v % 2 ^ mn * 2 ^ f ∧ mAt D dT mm wd lf rt tc ty F sz Wk wz dg' dc' sh H1)) [.ref (mm 0), .int (nI f), .int (nI mn), .int (nI v)].toArray s 0 0 (mA mm)) (F0 m 15 ls []) := by
          intro n159
          induction n159 with
          | zero =>
            intro ec hec h159
            exact absurd h159 (Nat.not_lt_zero _)
          | succ n159 ih15 =>
            intro ec hec h159 H locs eg he hval hM hS ls hl
            refine lv_aload_n hx hb d_M_setBits_15 rfl (lv_at hl 2 rfl) ?_
            refine va_get (D := D) (ci := 10) (v := .int (nI ec)) (C := "ValueTreesModel") (T := T_M) (N := 12) hx hb ht in_M hown hK.1 hM.1 0 rfl rfl 10 (by decide) (ht _ q549) (fun _ h9 => h9) rfl d_M_setBits_16 ?_
            refine lv_iload hx hb d_M_setBits_19 (lv_at hl 0 rfl) ?_
            refine lv_bipush (v := 16) hx hb d_M_setBits_21 (by decide) ?_
            refine lv_idiv hx hb d_M_setBits_23 (by decide) ?_
            rw [show (((nI (f + k)) / 16) : Int32) = nI ((f + k) / 16) from pk_div (a := (f + k)) (d := 16) (by omega) (by decide) (by decide)]
            refine lv_icmp_gt (tgt := 50) hx hb d_M_setBits_24 (by decide) (fun c4 => ?_) (fun c4 => ?_)
            · have nc4 : ((f + k) / 16) < ec := (nI_ltI (a := ((f + k) / 16)) (b := ec) (by omega) (by omega)).mp c4
              have hq9 : (f + k) / 16 < ec := nc4
              have hlow : eg ((f + k) / 16) < 2 ^ ((f + k) % 16) := dig_low he (by rw [hval]; exact low_lt hN) hq9
              have hb2 : v / 2 ^ k % 2 < 2 := Nat.mod_lt _ (by decide)
              have hvk := Nat.div_le_self v (2 ^ k)
              refine lv_aload_n hx hb d_M_setBits_50 rfl (lv_at hl 2 rfl) ?_
              refine va_get (D := D) (ci := 10) (v := .ref (mm 8)) (C := "ValueTreesModel") (T := T_M) (N := 12) hx hb ht in_M hown hK.1 hM.1 0 rfl rfl 9 (by decide) (ht _ q548) (fun _ h9 => h9) rfl d_M_setBits_51 ?_
              refine lv_iload hx hb d_M_setBits_54 (lv_at hl 0 rfl) ?_
              refine lv_bipush (v := 16) hx hb d_M_setBits_56 (by decide) ?_
              refine lv_idiv hx hb d_M_setBits_58 (by decide) ?_
              rw [show (((nI (f + k)) / 16) : Int32) = nI ((f + k) / 16) from pk_div (a := (f + k)) (d := 16) (by omega) (by decide) (by decide)]
              refine lv_dup2_11 hx hb d_M_setBits_59 rfl rfl ?_
              refine z_iald hx hb hK (hM.1 8 _ rfl) ((f + k) / 16) rfl (by omega) (by decide) d_M_setBits_60 ?_
              refine lv_iload_n hx hb d_M_setBits_61 rfl (lv_at hl 5 rfl) ?_
              refine lv_iload hx hb d_M_setBits_62 (lv_at hl 1 rfl) ?_
              refine lv_ishr hx hb d_M_setBits_64 ?_
              rw [show (((nI v) >>> ((nI k) &&& 31)) : Int32) = nI (v / 2 ^ k) from nI_shr (n := v) (r := k) (by omega) (by omega)]
              refine lv_iconst (v := 1) hx hb d_M_setBits_65 (by decide) ?_
              refine lv_iand hx hb d_M_setBits_66 ?_
              rw [show (((nI (v / 2 ^ k)) &&& 1) : Int32) = nI ((v / 2 ^ k) % 2) from nI_and1 (n := (v / 2 ^ k)) (by omega)]
              refine lv_iload hx hb d_M_setBits_67 (lv_at hl 0 rfl) ?_
              refine lv_bipush (v := 16) hx hb d_M_setBits_69 (by decide) ?_
              refine lv_irem hx hb d_M_setBits_71 (by decide) ?_
              rw [show (((nI (f + k)) - (nI (f + k)) / 16 * 16) : Int32) = nI ((f + k) % 16) from pk_rem (a := (f + k)) (d := 16) (by omega) (by decide) (by decide)]
              refine lv_ishl hx hb d_M_setBits_72 ?_
              rw [show (((nI ((v / 2 ^ k) % 2)) <<< ((nI ((f + k) % 16)) &&& 31)) : Int32) = nI (v / 2 ^ k % 2 * 2 ^ ((f + k) % 16)) from nI_shlr (by omega) (sh_bnd hb2 (by omega))]
              refine lv_ior hx hb d_M_setBits_73 ?_
              rw [show (((nI (eg ((f + k) / 16))) ||| (nI (v / 2 ^ k % 2 * 2 ^ ((f + k) % 16)))) : Int32) = nI (eg ((f + k) / 16) + v / 2 ^ k % 2 * 2 ^ ((f + k) % 16)) from nI_or_add hlow]
              refine m_ast_dg hx hb hK hM hS ((f + k) / 16) rfl (by omega) (eg ((f + k) / 16) + v / 2 ^ k % 2 * 2 ^ ((f + k) % 16)) rfl d_M_setBits_74 (fun H locs hM hS => ?_)
              have hM : mAt D dT mm wd lf rt tc ty F sz Wk wz (updN eg ((f + k) / 16) (eg ((f + k) / 16) + v / 2 ^ k % 2 * 2 ^ ((f + k) % 16))) ec sh H := hM
              refine lv_iinc (v := (nI (k + 1))) (lv' := [(4, .int (nI (k + 1))), (5, .int (nI (f + k))), (0, .ref (mm 0)), (1, .int (nI f)), (2, .int (nI mn)), (3, .int (nI v))]) hx hb d_M_setBits_75 hl (k := 1) rfl (nI_1 k) (by decide) rfl (fun ls hl => ?_)
              refine lv_goto (tgt := 3) hx hb d_M_setBits_78 (by decide) ?_
              exact ih3 (k + 1) (by omega) (by omega) _ _ _ ec hec (set_step he hq9 hval hN).1 (set_step he hq9 hval hN).2 hM hS ls (lv_sub hl [0, 2, 3, 4, 5] rfl)
            · have nc4 : ¬ ((f + k) / 16) < ec := fun h9 => c4 ((nI_ltI (a := ((f + k) / 16)) (b := ec) (by omega) (by omega)).mpr h9)
              refine lv_aload_n hx hb d_M_setBits_27 rfl (lv_at hl 2 rfl) ?_
              refine va_get (D := D) (ci := 10) (v := .ref (mm 8)) (C := "ValueTreesModel") (T := T_M) (N := 12) hx hb ht in_M hown hK.1 hM.1 0 rfl rfl 9 (by decide) (ht _ q548) (fun _ h9 => h9) rfl d_M_setBits_28 ?_
              refine lv_aload_n hx hb d_M_setBits_31 rfl (lv_at hl 2 rfl) ?_
              refine va_get (D := D) (ci := 10) (v := .int (nI ec)) (C := "ValueTreesModel") (T := T_M) (N := 12) hx hb ht in_M hown hK.1 hM.1 0 rfl rfl 10 (by decide) (ht _ q549) (fun _ h9 => h9) rfl d_M_setBits_32 ?_
              refine lv_iconst (v := 0) hx hb d_M_setBits_35 (by decide) ?_
              refine m_ast_dg hx hb hK hM hS ec rfl (by omega) 0 rfl d_M_setBits_36 (fun H locs hM hS => ?_)
              have hM : mAt D dT mm wd lf rt tc ty F sz Wk wz (updN eg ec 0) ec sh H := hM
              refine lv_aload_n hx hb d_M_setBits_37 rfl (lv_at hl 2 rfl) ?_
              refine lv_dup hx hb d_M_setBits_38 rfl ?_
              refine va_get (D := D) (ci := 10) (v := .int (nI ec)) (C := "ValueTreesModel") (T := T_M) (N := 12) hx hb ht in_M hown hK.1 hM.1 0 rfl rfl 10 (by decide) (ht _ q549) (fun _ h9 => h9) rfl d_M_setBits_39 ?_
              refine lv_iconst (v := 1) hx hb d_M_setBits_42 (by decide) ?_
              refine lv_iadd hx hb d_M_setBits_43 ?_
              rw [show (((nI ec) + 1) : Int32) = nI (ec + 1) from nI_add ec 1]
              refine m_put_dc hx hb ht hown hK hM hS (ht _ q549) (ec + 1) rfl d_M_setBits_44 (fun H locs hM hS => ?_)
              have hM : mAt D dT mm wd lf rt tc ty F sz Wk wz (updN eg ec 0) (ec + 1) sh H := hM
              refine lv_goto (tgt := 15) hx hb d_M_setBits_47 (by decide) ?_
              exact ih15 (ec + 1) (by omega) (by omega) _ _ _ (ext_step he) (by rw [dval_ext]; exact hval) hM hS ls (lv_sub hl [0, 1, 2, 3, 4, 5] rfl)
        exact loop3 142 ec hec (by omega) _ _ eg he hval hM hS ls (lv_sub hl [0, 1, 2, 3, 4, 5] rfl)
  exact loop1 (mn + 1) 0 (by omega) (by omega) _ _ dg dc hdc hd (by rw [Nat.pow_zero, Nat.mod_one, Nat.zero_mul, Nat.add_zero, hN0]) hM hS ls (lv_sub hl [0, 1, 2, 3, 4] rfl)
