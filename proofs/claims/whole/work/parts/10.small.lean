abbrev b_V_isRegister : ByteArray := prog_1_method_28_code
abbrev y_V_isRegister : MethodName := ⟨"ValueTrees", "isRegister", "(I)Z"⟩
abbrev w_V_isRegister : List Cond := .code y_V_isRegister b_V_isRegister 1 (Option.some .boolean) :: gt
theorem hd_V_isRegister : (y_V_isRegister).cls ≠ "java/lang/invoke/MethodHandle" ∧ (y_V_isRegister).cls ≠ "java/lang/invoke/VarHandle" ∧ (parseMethodDescriptor (y_V_isRegister).desc).map (fun d => d.parameters.length) = some 1 := by decide +kernel
theorem d_V_isRegister_0 : decode b_V_isRegister 0 = .ok (.iload_n 0, 1) := by decide +kernel
theorem d_V_isRegister_1 : decode b_V_isRegister 1 = .ok (.ifCond .lt 13, 3) := by decide +kernel
theorem d_V_isRegister_4 : decode b_V_isRegister 4 = .ok (.iload_n 0, 1) := by decide +kernel
theorem d_V_isRegister_5 : decode b_V_isRegister 5 = .ok (.bipush 16, 2) := by decide +kernel
theorem d_V_isRegister_7 : decode b_V_isRegister 7 = .ok (.if_icmp .ge 7, 3) := by decide +kernel
theorem d_V_isRegister_10 : decode b_V_isRegister 10 = .ok (.iconst 1, 1) := by decide +kernel
theorem d_V_isRegister_11 : decode b_V_isRegister 11 = .ok (.goto 4, 3) := by decide +kernel
theorem d_V_isRegister_14 : decode b_V_isRegister 14 = .ok (.iconst 0, 1) := by decide +kernel
theorem d_V_isRegister_15 : decode b_V_isRegister 15 = .ok (.ireturn, 1) := by decide +kernel
set_option maxHeartbeats 4000000 in
set_option maxRecDepth 100000 in
theorem c_V_isRegister (l : Launch) (D : va_G) (dT : Nat → ClassId) (H : Heap) (r : Int32) : Met l y_V_isRegister w_V_isRegister ({ frames := 0, cells := 0, slots := 0, locals := 0 }) (z_P D dT [.int r] H) (z_R (fun v => v = .int (if 0 ≤ r ∧ r < 16 then 1 else 0))) 0 0 (fun _ => False) := by
  refine Met.ofW (cc := b_V_isRegister) (maxL := 1) (ret := (Option.some .boolean)) (by decide) rfl ?_
  intro p e s m args below meth c s₁ B hml hv
  obtain ⟨rfl, rfl, hK⟩ := hv
  have hx := B.exec
  have hb := B.bytes
  have hr := B.returns
  have hts := atoms_spec (ws := w_V_isRegister) B.pre
  have ht : ∀ w ∈ gt, w.before [.int r].toArray s = true := fun w h => hts w (List.mem_cons_of_mem _ h)
  have hown : s.vm.findClass "ValueTrees" = some m.cls := findClass_of_methodNamed B.named
  have hlocks := B.notSynchronized
  have hl := lv_entry ([.int r]) (n := 1) (Nat.le_of_ble_eq_true rfl)
  rw [lg_entry_eq]
  generalize (lg_sl ([.int r]) ++ List.replicate (1 - (lg_sl ([.int r])).length) Slot.unset).toArray = ls at hl ⊢
  have hl : lv_has ls 1 [(0, .int r)] := hl
  refine lv_iload_n hx hb d_V_isRegister_0 rfl (lv_at hl 0 rfl) ?_
  refine lv_if_lt (tgt := 14) hx hb d_V_isRegister_1 (by decide) (fun c1 => ?_) (fun c1 => ?_)
  · refine lv_iconst (v := 0) hx hb d_V_isRegister_14 (by decide) ?_
    exact z_zretR hx hb hr hlocks d_V_isRegister_15 rfl (by simp_all [Int32.not_lt, Int32.not_le])
  · refine lv_iload_n hx hb d_V_isRegister_4 rfl (lv_at hl 0 rfl) ?_
    refine lv_bipush (v := 16) hx hb d_V_isRegister_5 (by decide) ?_
    refine lv_icmp_ge (tgt := 14) hx hb d_V_isRegister_7 (by decide) (fun c2 => ?_) (fun c2 => ?_)
    · refine lv_iconst (v := 0) hx hb d_V_isRegister_14 (by decide) ?_
      exact z_zretR hx hb hr hlocks d_V_isRegister_15 rfl (by simp_all [Int32.not_lt, Int32.not_le])
    · refine lv_iconst (v := 1) hx hb d_V_isRegister_10 (by decide) ?_
      refine lv_goto (tgt := 15) hx hb d_V_isRegister_11 (by decide) ?_
      exact z_zretR hx hb hr hlocks d_V_isRegister_15 rfl (by simp_all [Int32.not_lt, Int32.not_le])
abbrev b_M_isRegister : ByteArray := prog_12_method_11_code
abbrev y_M_isRegister : MethodName := ⟨"ValueTreesModel", "isRegister", "(I)Z"⟩
abbrev w_M_isRegister : List Cond := .code y_M_isRegister b_M_isRegister 1 (Option.some .boolean) :: gt
theorem hd_M_isRegister : (y_M_isRegister).cls ≠ "java/lang/invoke/MethodHandle" ∧ (y_M_isRegister).cls ≠ "java/lang/invoke/VarHandle" ∧ (parseMethodDescriptor (y_M_isRegister).desc).map (fun d => d.parameters.length) = some 1 := by decide +kernel
theorem d_M_isRegister_0 : decode b_M_isRegister 0 = .ok (.iload_n 0, 1) := by decide +kernel
theorem d_M_isRegister_1 : decode b_M_isRegister 1 = .ok (.ifCond .lt 13, 3) := by decide +kernel
theorem d_M_isRegister_4 : decode b_M_isRegister 4 = .ok (.iload_n 0, 1) := by decide +kernel
theorem d_M_isRegister_5 : decode b_M_isRegister 5 = .ok (.bipush 16, 2) := by decide +kernel
theorem d_M_isRegister_7 : decode b_M_isRegister 7 = .ok (.if_icmp .ge 7, 3) := by decide +kernel
theorem d_M_isRegister_10 : decode b_M_isRegister 10 = .ok (.iconst 1, 1) := by decide +kernel
theorem d_M_isRegister_11 : decode b_M_isRegister 11 = .ok (.goto 4, 3) := by decide +kernel
theorem d_M_isRegister_14 : decode b_M_isRegister 14 = .ok (.iconst 0, 1) := by decide +kernel
theorem d_M_isRegister_15 : decode b_M_isRegister 15 = .ok (.ireturn, 1) := by decide +kernel
set_option maxHeartbeats 4000000 in
set_option maxRecDepth 100000 in
theorem c_M_isRegister (l : Launch) (D : va_G) (dT : Nat → ClassId) (H : Heap) (r : Int32) : Met l y_M_isRegister w_M_isRegister ({ frames := 0, cells := 0, slots := 0, locals := 0 }) (z_P D dT [.int r] H) (z_R (fun v => v = .int (if 0 ≤ r ∧ r < 16 then 1 else 0))) 0 0 (fun _ => False) := by
  refine Met.ofW (cc := b_M_isRegister) (maxL := 1) (ret := (Option.some .boolean)) (by decide) rfl ?_
  intro p e s m args below meth c s₁ B hml hv
  obtain ⟨rfl, rfl, hK⟩ := hv
  have hx := B.exec
  have hb := B.bytes
  have hr := B.returns
  have hts := atoms_spec (ws := w_M_isRegister) B.pre
  have ht : ∀ w ∈ gt, w.before [.int r].toArray s = true := fun w h => hts w (List.mem_cons_of_mem _ h)
  have hown : s.vm.findClass "ValueTreesModel" = some m.cls := findClass_of_methodNamed B.named
  have hlocks := B.notSynchronized
  have hl := lv_entry ([.int r]) (n := 1) (Nat.le_of_ble_eq_true rfl)
  rw [lg_entry_eq]
  generalize (lg_sl ([.int r]) ++ List.replicate (1 - (lg_sl ([.int r])).length) Slot.unset).toArray = ls at hl ⊢
  have hl : lv_has ls 1 [(0, .int r)] := hl
  refine lv_iload_n hx hb d_M_isRegister_0 rfl (lv_at hl 0 rfl) ?_
  refine lv_if_lt (tgt := 14) hx hb d_M_isRegister_1 (by decide) (fun c1 => ?_) (fun c1 => ?_)
  · refine lv_iconst (v := 0) hx hb d_M_isRegister_14 (by decide) ?_
    exact z_zretR hx hb hr hlocks d_M_isRegister_15 rfl (by simp_all [Int32.not_lt, Int32.not_le])
  · refine lv_iload_n hx hb d_M_isRegister_4 rfl (lv_at hl 0 rfl) ?_
    refine lv_bipush (v := 16) hx hb d_M_isRegister_5 (by decide) ?_
    refine lv_icmp_ge (tgt := 14) hx hb d_M_isRegister_7 (by decide) (fun c2 => ?_) (fun c2 => ?_)
    · refine lv_iconst (v := 0) hx hb d_M_isRegister_14 (by decide) ?_
      exact z_zretR hx hb hr hlocks d_M_isRegister_15 rfl (by simp_all [Int32.not_lt, Int32.not_le])
    · refine lv_iconst (v := 1) hx hb d_M_isRegister_10 (by decide) ?_
      refine lv_goto (tgt := 15) hx hb d_M_isRegister_11 (by decide) ?_
      exact z_zretR hx hb hr hlocks d_M_isRegister_15 rfl (by simp_all [Int32.not_lt, Int32.not_le])
