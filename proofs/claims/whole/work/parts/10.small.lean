abbrev b_V_isRegister : ByteArray := prog_1_method_28_code
abbrev y_V_isRegister : MethodName := ⟨"ValueTrees", "isRegister", "(I)Z"⟩
abbrev w_V_isRegister : List Cond := .code y_V_isRegister b_V_isRegister 1 (Option.some .boolean) :: gt
theorem hd_V_isRegister : (y_V_isRegister).cls ≠ "java/lang/invoke/MethodHandle" ∧ (y_V_isRegister).cls ≠ "java/lang/invoke/VarHandle" ∧ (parseMethodDescriptor (y_V_isRegister).desc).map (fun d => d.parameters.length) = some 1 := by decide +kernel
theorem d_V_isRegister_0 : decode b_V_isRegister 0 = .ok (.iload_n 0, 1) := by decide +kernel
theorem d_V_isRegister_1 : decode b_V_isRegister 1 = .ok (.ifCond .lt 13, 3) := by decide +kernel
theorem d_V_isRegister_4 : decode b_V_isRegister 4 = .ok (.iload_n 0, 1) := by decide +kernel
theorem d_V_isRegister_5 : decode b_V_isRegister 5 = .ok (.bipush 16, 2) := by decide +kernel
theorem d_V_isRegister_7 : decode b_V_isRegister 7 = .ok (.if_icmp .ge 7, 3) := by decide +kernel
theorem d_V_isRegister_10 : decode b_V_isRegister 10 = .ok (.iconst 1, 1) := by decide +kernel
theorem d_V_isRegister_11 : decode b_V_isRegister 11 = .ok (.goto 4, 3) := by decide +kernel
theorem d_V_isRegister_14 : decode b_V_isRegister 14 = .ok (.iconst 0, 1) := by decide +kernel
theorem d_V_isRegister_15 : decode b_V_isRegister 15 = .ok (.ireturn, 1) := by decide +kernel
set_option maxHeartbeats 4000000 in
set_option maxRecDepth 100000 in
theorem c_V_isRegister (l : Launch) (D : va_G) (dT : Nat → ClassId) (H : Heap) (r : Int32) : Met l y_V_isRegister w_V_isRegister ({ frames := 0, cells := 0, slots := 0, locals := 0 }) (z_P D dT [.int r] H) (z_R (fun v => v = .int (if inR r then 1 else 0))) 0 0 (fun _ => False) := by
  refine Met.ofW (cc := b_V_isRegister) (maxL := 1) (ret := (Option.some .boolean)) (by decide) rfl ?_
  intro p e s m args below meth c s₁ B hml hv
  obtain ⟨rfl, rfl, hK⟩ := hv
  have hx := B.exec
  have hb := B.bytes
  have hr := B.returns
  have hts := atoms_spec (ws := w_V_isRegister) B.pre
  have ht : ∀ w9 ∈ gt, w9.before [.int r].toArray s = true := fun w9 h => hts w9 (List.mem_cons_of_mem _ h)
  have hown : s.vm.findClass "ValueTrees" = some m.cls := findClass_of_methodNamed B.named
  have hlocks := B.notSynchronized
  have hl := lv_entry ([.int r]) (n := 1) (Nat.le_of_ble_eq_true rfl)
  rw [lg_entry_eq]
  generalize (lg_sl ([.int r]) ++ List.replicate (1 - (lg_sl ([.int r])).length) Slot.unset).toArray = ls at hl ⊢
  have hl : lv_has ls 1 [(0, .int r)] := hl
  refine lv_iload_n hx hb d_V_isRegister_0 rfl (lv_at hl 0 rfl) ?_
  refine lv_if_lt (tgt := 14) hx hb d_V_isRegister_1 (by decide) (fun c1 => ?_) (fun c1 => ?_)
  · refine lv_iconst (v := 0) hx hb d_V_isRegister_14 (by decide) ?_
    exact z_zretR hx hb hr hlocks d_V_isRegister_15 rfl (by repeat (first | rfl | rw [if_pos (by (revert c1; simp only [inR, isNum, isRw, isTr, hasV, Int32.lt_iff_toInt_lt, Int32.le_iff_toInt_le, ← Int32.toInt_inj, Int32.reduceToInt, z_m1, z_m2]; (try intros); omega))] | rw [if_neg (by (revert c1; simp only [inR, isNum, isRw, isTr, hasV, Int32.lt_iff_toInt_lt, Int32.le_iff_toInt_le, ← Int32.toInt_inj, Int32.reduceToInt, z_m1, z_m2]; (try intros); omega))]))
  · refine lv_iload_n hx hb d_V_isRegister_4 rfl (lv_at hl 0 rfl) ?_
    refine lv_bipush (v := 16) hx hb d_V_isRegister_5 (by decide) ?_
    refine lv_icmp_ge (tgt := 14) hx hb d_V_isRegister_7 (by decide) (fun c2 => ?_) (fun c2 => ?_)
    · refine lv_iconst (v := 0) hx hb d_V_isRegister_14 (by decide) ?_
      exact z_zretR hx hb hr hlocks d_V_isRegister_15 rfl (by repeat (first | rfl | rw [if_pos (by (revert c1 c2; simp only [inR, isNum, isRw, isTr, hasV, Int32.lt_iff_toInt_lt, Int32.le_iff_toInt_le, ← Int32.toInt_inj, Int32.reduceToInt, z_m1, z_m2]; (try intros); omega))] | rw [if_neg (by (revert c1 c2; simp only [inR, isNum, isRw, isTr, hasV, Int32.lt_iff_toInt_lt, Int32.le_iff_toInt_le, ← Int32.toInt_inj, Int32.reduceToInt, z_m1, z_m2]; (try intros); omega))]))
    · refine lv_iconst (v := 1) hx hb d_V_isRegister_10 (by decide) ?_
      refine lv_goto (tgt := 15) hx hb d_V_isRegister_11 (by decide) ?_
      exact z_zretR hx hb hr hlocks d_V_isRegister_15 rfl (by repeat (first | rfl | rw [if_pos (by (revert c1 c2; simp only [inR, isNum, isRw, isTr, hasV, Int32.lt_iff_toInt_lt, Int32.le_iff_toInt_le, ← Int32.toInt_inj, Int32.reduceToInt, z_m1, z_m2]; (try intros); omega))] | rw [if_neg (by (revert c1 c2; simp only [inR, isNum, isRw, isTr, hasV, Int32.lt_iff_toInt_lt, Int32.le_iff_toInt_le, ← Int32.toInt_inj, Int32.reduceToInt, z_m1, z_m2]; (try intros); omega))]))
abbrev b_M_isRegister : ByteArray := prog_12_method_11_code
abbrev y_M_isRegister : MethodName := ⟨"ValueTreesModel", "isRegister", "(I)Z"⟩
abbrev w_M_isRegister : List Cond := .code y_M_isRegister b_M_isRegister 1 (Option.some .boolean) :: gt
theorem hd_M_isRegister : (y_M_isRegister).cls ≠ "java/lang/invoke/MethodHandle" ∧ (y_M_isRegister).cls ≠ "java/lang/invoke/VarHandle" ∧ (parseMethodDescriptor (y_M_isRegister).desc).map (fun d => d.parameters.length) = some 1 := by decide +kernel
theorem d_M_isRegister_0 : decode b_M_isRegister 0 = .ok (.iload_n 0, 1) := by decide +kernel
theorem d_M_isRegister_1 : decode b_M_isRegister 1 = .ok (.ifCond .lt 13, 3) := by decide +kernel
theorem d_M_isRegister_4 : decode b_M_isRegister 4 = .ok (.iload_n 0, 1) := by decide +kernel
theorem d_M_isRegister_5 : decode b_M_isRegister 5 = .ok (.bipush 16, 2) := by decide +kernel
theorem d_M_isRegister_7 : decode b_M_isRegister 7 = .ok (.if_icmp .ge 7, 3) := by decide +kernel
theorem d_M_isRegister_10 : decode b_M_isRegister 10 = .ok (.iconst 1, 1) := by decide +kernel
theorem d_M_isRegister_11 : decode b_M_isRegister 11 = .ok (.goto 4, 3) := by decide +kernel
theorem d_M_isRegister_14 : decode b_M_isRegister 14 = .ok (.iconst 0, 1) := by decide +kernel
theorem d_M_isRegister_15 : decode b_M_isRegister 15 = .ok (.ireturn, 1) := by decide +kernel
set_option maxHeartbeats 4000000 in
set_option maxRecDepth 100000 in
theorem c_M_isRegister (l : Launch) (D : va_G) (dT : Nat → ClassId) (H : Heap) (r : Int32) : Met l y_M_isRegister w_M_isRegister ({ frames := 0, cells := 0, slots := 0, locals := 0 }) (z_P D dT [.int r] H) (z_R (fun v => v = .int (if inR r then 1 else 0))) 0 0 (fun _ => False) := by
  refine Met.ofW (cc := b_M_isRegister) (maxL := 1) (ret := (Option.some .boolean)) (by decide) rfl ?_
  intro p e s m args below meth c s₁ B hml hv
  obtain ⟨rfl, rfl, hK⟩ := hv
  have hx := B.exec
  have hb := B.bytes
  have hr := B.returns
  have hts := atoms_spec (ws := w_M_isRegister) B.pre
  have ht : ∀ w9 ∈ gt, w9.before [.int r].toArray s = true := fun w9 h => hts w9 (List.mem_cons_of_mem _ h)
  have hown : s.vm.findClass "ValueTreesModel" = some m.cls := findClass_of_methodNamed B.named
  have hlocks := B.notSynchronized
  have hl := lv_entry ([.int r]) (n := 1) (Nat.le_of_ble_eq_true rfl)
  rw [lg_entry_eq]
  generalize (lg_sl ([.int r]) ++ List.replicate (1 - (lg_sl ([.int r])).length) Slot.unset).toArray = ls at hl ⊢
  have hl : lv_has ls 1 [(0, .int r)] := hl
  refine lv_iload_n hx hb d_M_isRegister_0 rfl (lv_at hl 0 rfl) ?_
  refine lv_if_lt (tgt := 14) hx hb d_M_isRegister_1 (by decide) (fun c1 => ?_) (fun c1 => ?_)
  · refine lv_iconst (v := 0) hx hb d_M_isRegister_14 (by decide) ?_
    exact z_zretR hx hb hr hlocks d_M_isRegister_15 rfl (by repeat (first | rfl | rw [if_pos (by (revert c1; simp only [inR, isNum, isRw, isTr, hasV, Int32.lt_iff_toInt_lt, Int32.le_iff_toInt_le, ← Int32.toInt_inj, Int32.reduceToInt, z_m1, z_m2]; (try intros); omega))] | rw [if_neg (by (revert c1; simp only [inR, isNum, isRw, isTr, hasV, Int32.lt_iff_toInt_lt, Int32.le_iff_toInt_le, ← Int32.toInt_inj, Int32.reduceToInt, z_m1, z_m2]; (try intros); omega))]))
  · refine lv_iload_n hx hb d_M_isRegister_4 rfl (lv_at hl 0 rfl) ?_
    refine lv_bipush (v := 16) hx hb d_M_isRegister_5 (by decide) ?_
    refine lv_icmp_ge (tgt := 14) hx hb d_M_isRegister_7 (by decide) (fun c2 => ?_) (fun c2 => ?_)
    · refine lv_iconst (v := 0) hx hb d_M_isRegister_14 (by decide) ?_
      exact z_zretR hx hb hr hlocks d_M_isRegister_15 rfl (by repeat (first | rfl | rw [if_pos (by (revert c1 c2; simp only [inR, isNum, isRw, isTr, hasV, Int32.lt_iff_toInt_lt, Int32.le_iff_toInt_le, ← Int32.toInt_inj, Int32.reduceToInt, z_m1, z_m2]; (try intros); omega))] | rw [if_neg (by (revert c1 c2; simp only [inR, isNum, isRw, isTr, hasV, Int32.lt_iff_toInt_lt, Int32.le_iff_toInt_le, ← Int32.toInt_inj, Int32.reduceToInt, z_m1, z_m2]; (try intros); omega))]))
    · refine lv_iconst (v := 1) hx hb d_M_isRegister_10 (by decide) ?_
      refine lv_goto (tgt := 15) hx hb d_M_isRegister_11 (by decide) ?_
      exact z_zretR hx hb hr hlocks d_M_isRegister_15 rfl (by repeat (first | rfl | rw [if_pos (by (revert c1 c2; simp only [inR, isNum, isRw, isTr, hasV, Int32.lt_iff_toInt_lt, Int32.le_iff_toInt_le, ← Int32.toInt_inj, Int32.reduceToInt, z_m1, z_m2]; (try intros); omega))] | rw [if_neg (by (revert c1 c2; simp only [inR, isNum, isRw, isTr, hasV, Int32.lt_iff_toInt_lt, Int32.le_iff_toInt_le, ← Int32.toInt_inj, Int32.reduceToInt, z_m1, z_m2]; (try intros); omega))]))
abbrev b_M_isNumber : ByteArray := prog_12_method_14_code
abbrev y_M_isNumber : MethodName := ⟨"ValueTreesModel", "isNumber", "(I)Z"⟩
abbrev w_M_isNumber : List Cond := .code y_M_isNumber b_M_isNumber 1 (Option.some .boolean) :: gt
theorem hd_M_isNumber : (y_M_isNumber).cls ≠ "java/lang/invoke/MethodHandle" ∧ (y_M_isNumber).cls ≠ "java/lang/invoke/VarHandle" ∧ (parseMethodDescriptor (y_M_isNumber).desc).map (fun d => d.parameters.length) = some 1 := by decide +kernel
theorem d_M_isNumber_0 : decode b_M_isNumber 0 = .ok (.iload_n 0, 1) := by decide +kernel
theorem d_M_isNumber_1 : decode b_M_isNumber 1 = .ok (.iconst 2, 1) := by decide +kernel
theorem d_M_isNumber_2 : decode b_M_isNumber 2 = .ok (.if_icmp .eq 19, 3) := by decide +kernel
theorem d_M_isNumber_5 : decode b_M_isNumber 5 = .ok (.iload_n 0, 1) := by decide +kernel
theorem d_M_isNumber_6 : decode b_M_isNumber 6 = .ok (.iconst 3, 1) := by decide +kernel
theorem d_M_isNumber_7 : decode b_M_isNumber 7 = .ok (.if_icmp .eq 14, 3) := by decide +kernel
theorem d_M_isNumber_10 : decode b_M_isNumber 10 = .ok (.iload_n 0, 1) := by decide +kernel
theorem d_M_isNumber_11 : decode b_M_isNumber 11 = .ok (.iconst 4, 1) := by decide +kernel
theorem d_M_isNumber_12 : decode b_M_isNumber 12 = .ok (.if_icmp .eq 9, 3) := by decide +kernel
theorem d_M_isNumber_15 : decode b_M_isNumber 15 = .ok (.iload_n 0, 1) := by decide +kernel
theorem d_M_isNumber_16 : decode b_M_isNumber 16 = .ok (.bipush 8, 2) := by decide +kernel
theorem d_M_isNumber_18 : decode b_M_isNumber 18 = .ok (.if_icmp .ne 7, 3) := by decide +kernel
theorem d_M_isNumber_21 : decode b_M_isNumber 21 = .ok (.iconst 1, 1) := by decide +kernel
theorem d_M_isNumber_22 : decode b_M_isNumber 22 = .ok (.goto 4, 3) := by decide +kernel
theorem d_M_isNumber_25 : decode b_M_isNumber 25 = .ok (.iconst 0, 1) := by decide +kernel
theorem d_M_isNumber_26 : decode b_M_isNumber 26 = .ok (.ireturn, 1) := by decide +kernel
set_option maxHeartbeats 4000000 in
set_option maxRecDepth 100000 in
theorem c_M_isNumber (l : Launch) (D : va_G) (dT : Nat → ClassId) (H : Heap) (w : Int32) : Met l y_M_isNumber w_M_isNumber ({ frames := 0, cells := 0, slots := 0, locals := 0 }) (z_P D dT [.int w] H) (z_R (fun v => v = .int (if isNum w then 1 else 0))) 0 0 (fun _ => False) := by
  refine Met.ofW (cc := b_M_isNumber) (maxL := 1) (ret := (Option.some .boolean)) (by decide) rfl ?_
  intro p e s m args below meth c s₁ B hml hv
  obtain ⟨rfl, rfl, hK⟩ := hv
  have hx := B.exec
  have hb := B.bytes
  have hr := B.returns
  have hts := atoms_spec (ws := w_M_isNumber) B.pre
  have ht : ∀ w9 ∈ gt, w9.before [.int w].toArray s = true := fun w9 h => hts w9 (List.mem_cons_of_mem _ h)
  have hown : s.vm.findClass "ValueTreesModel" = some m.cls := findClass_of_methodNamed B.named
  have hlocks := B.notSynchronized
  have hl := lv_entry ([.int w]) (n := 1) (Nat.le_of_ble_eq_true rfl)
  rw [lg_entry_eq]
  generalize (lg_sl ([.int w]) ++ List.replicate (1 - (lg_sl ([.int w])).length) Slot.unset).toArray = ls at hl ⊢
  have hl : lv_has ls 1 [(0, .int w)] := hl
  refine lv_iload_n hx hb d_M_isNumber_0 rfl (lv_at hl 0 rfl) ?_
  refine lv_iconst (v := 2) hx hb d_M_isNumber_1 (by decide) ?_
  refine lv_icmp_eq (tgt := 21) hx hb d_M_isNumber_2 (by decide) (fun c1 => ?_) (fun c1 => ?_)
  · refine lv_iconst (v := 1) hx hb d_M_isNumber_21 (by decide) ?_
    refine lv_goto (tgt := 26) hx hb d_M_isNumber_22 (by decide) ?_
    exact z_zretR hx hb hr hlocks d_M_isNumber_26 rfl (by repeat (first | rfl | rw [if_pos (by (revert c1; simp only [inR, isNum, isRw, isTr, hasV, Int32.lt_iff_toInt_lt, Int32.le_iff_toInt_le, ← Int32.toInt_inj, Int32.reduceToInt, z_m1, z_m2]; (try intros); omega))] | rw [if_neg (by (revert c1; simp only [inR, isNum, isRw, isTr, hasV, Int32.lt_iff_toInt_lt, Int32.le_iff_toInt_le, ← Int32.toInt_inj, Int32.reduceToInt, z_m1, z_m2]; (try intros); omega))]))
  · refine lv_iload_n hx hb d_M_isNumber_5 rfl (lv_at hl 0 rfl) ?_
    refine lv_iconst (v := 3) hx hb d_M_isNumber_6 (by decide) ?_
    refine lv_icmp_eq (tgt := 21) hx hb d_M_isNumber_7 (by decide) (fun c2 => ?_) (fun c2 => ?_)
    · refine lv_iconst (v := 1) hx hb d_M_isNumber_21 (by decide) ?_
      refine lv_goto (tgt := 26) hx hb d_M_isNumber_22 (by decide) ?_
      exact z_zretR hx hb hr hlocks d_M_isNumber_26 rfl (by repeat (first | rfl | rw [if_pos (by (revert c1 c2; simp only [inR, isNum, isRw, isTr, hasV, Int32.lt_iff_toInt_lt, Int32.le_iff_toInt_le, ← Int32.toInt_inj, Int32.reduceToInt, z_m1, z_m2]; (try intros); omega))] | rw [if_neg (by (revert c1 c2; simp only [inR, isNum, isRw, isTr, hasV, Int32.lt_iff_toInt_lt, Int32.le_iff_toInt_le, ← Int32.toInt_inj, Int32.reduceToInt, z_m1, z_m2]; (try intros); omega))]))
    · refine lv_iload_n hx hb d_M_isNumber_10 rfl (lv_at hl 0 rfl) ?_
      refine lv_iconst (v := 4) hx hb d_M_isNumber_11 (by decide) ?_
      refine lv_icmp_eq (tgt := 21) hx hb d_M_isNumber_12 (by decide) (fun c3 => ?_) (fun c3 => ?_)
      · refine lv_iconst (v := 1) hx hb d_M_isNumber_21 (by decide) ?_
        refine lv_goto (tgt := 26) hx hb d_M_isNumber_22 (by decide) ?_
        exact z_zretR hx hb hr hlocks d_M_isNumber_26 rfl (by repeat (first | rfl | rw [if_pos (by (revert c1 c2 c3; simp only [inR, isNum, isRw, isTr, hasV, Int32.lt_iff_toInt_lt, Int32.le_iff_toInt_le, ← Int32.toInt_inj, Int32.reduceToInt, z_m1, z_m2]; (try intros); omega))] | rw [if_neg (by (revert c1 c2 c3; simp only [inR, isNum, isRw, isTr, hasV, Int32.lt_iff_toInt_lt, Int32.le_iff_toInt_le, ← Int32.toInt_inj, Int32.reduceToInt, z_m1, z_m2]; (try intros); omega))]))
      · refine lv_iload_n hx hb d_M_isNumber_15 rfl (lv_at hl 0 rfl) ?_
        refine lv_bipush (v := 8) hx hb d_M_isNumber_16 (by decide) ?_
        refine lv_icmp_ne (tgt := 25) hx hb d_M_isNumber_18 (by decide) (fun c4 => ?_) (fun c4 => ?_)
        · refine lv_iconst (v := 0) hx hb d_M_isNumber_25 (by decide) ?_
          exact z_zretR hx hb hr hlocks d_M_isNumber_26 rfl (by repeat (first | rfl | rw [if_pos (by (revert c1 c2 c3 c4; simp only [inR, isNum, isRw, isTr, hasV, Int32.lt_iff_toInt_lt, Int32.le_iff_toInt_le, ← Int32.toInt_inj, Int32.reduceToInt, z_m1, z_m2]; (try intros); omega))] | rw [if_neg (by (revert c1 c2 c3 c4; simp only [inR, isNum, isRw, isTr, hasV, Int32.lt_iff_toInt_lt, Int32.le_iff_toInt_le, ← Int32.toInt_inj, Int32.reduceToInt, z_m1, z_m2]; (try intros); omega))]))
        · refine lv_iconst (v := 1) hx hb d_M_isNumber_21 (by decide) ?_
          refine lv_goto (tgt := 26) hx hb d_M_isNumber_22 (by decide) ?_
          exact z_zretR hx hb hr hlocks d_M_isNumber_26 rfl (by repeat (first | rfl | rw [if_pos (by (revert c1 c2 c3 c4; simp only [inR, isNum, isRw, isTr, hasV, Int32.lt_iff_toInt_lt, Int32.le_iff_toInt_le, ← Int32.toInt_inj, Int32.reduceToInt, z_m1, z_m2]; (try intros); omega))] | rw [if_neg (by (revert c1 c2 c3 c4; simp only [inR, isNum, isRw, isTr, hasV, Int32.lt_iff_toInt_lt, Int32.le_iff_toInt_le, ← Int32.toInt_inj, Int32.reduceToInt, z_m1, z_m2]; (try intros); omega))]))
abbrev b_M_isRow : ByteArray := prog_12_method_15_code
abbrev y_M_isRow : MethodName := ⟨"ValueTreesModel", "isRow", "(I)Z"⟩
abbrev w_M_isRow : List Cond := .code y_M_isRow b_M_isRow 1 (Option.some .boolean) :: gt
theorem hd_M_isRow : (y_M_isRow).cls ≠ "java/lang/invoke/MethodHandle" ∧ (y_M_isRow).cls ≠ "java/lang/invoke/VarHandle" ∧ (parseMethodDescriptor (y_M_isRow).desc).map (fun d => d.parameters.length) = some 1 := by decide +kernel
theorem d_M_isRow_0 : decode b_M_isRow 0 = .ok (.iload_n 0, 1) := by decide +kernel
theorem d_M_isRow_1 : decode b_M_isRow 1 = .ok (.iconst 5, 1) := by decide +kernel
theorem d_M_isRow_2 : decode b_M_isRow 2 = .ok (.if_icmp .eq 15, 3) := by decide +kernel
theorem d_M_isRow_5 : decode b_M_isRow 5 = .ok (.iload_n 0, 1) := by decide +kernel
theorem d_M_isRow_6 : decode b_M_isRow 6 = .ok (.bipush 6, 2) := by decide +kernel
theorem d_M_isRow_8 : decode b_M_isRow 8 = .ok (.if_icmp .eq 9, 3) := by decide +kernel
theorem d_M_isRow_11 : decode b_M_isRow 11 = .ok (.iload_n 0, 1) := by decide +kernel
theorem d_M_isRow_12 : decode b_M_isRow 12 = .ok (.bipush 7, 2) := by decide +kernel
theorem d_M_isRow_14 : decode b_M_isRow 14 = .ok (.if_icmp .ne 7, 3) := by decide +kernel
theorem d_M_isRow_17 : decode b_M_isRow 17 = .ok (.iconst 1, 1) := by decide +kernel
theorem d_M_isRow_18 : decode b_M_isRow 18 = .ok (.goto 4, 3) := by decide +kernel
theorem d_M_isRow_21 : decode b_M_isRow 21 = .ok (.iconst 0, 1) := by decide +kernel
theorem d_M_isRow_22 : decode b_M_isRow 22 = .ok (.ireturn, 1) := by decide +kernel
set_option maxHeartbeats 4000000 in
set_option maxRecDepth 100000 in
theorem c_M_isRow (l : Launch) (D : va_G) (dT : Nat → ClassId) (H : Heap) (w : Int32) : Met l y_M_isRow w_M_isRow ({ frames := 0, cells := 0, slots := 0, locals := 0 }) (z_P D dT [.int w] H) (z_R (fun v => v = .int (if isRw w then 1 else 0))) 0 0 (fun _ => False) := by
  refine Met.ofW (cc := b_M_isRow) (maxL := 1) (ret := (Option.some .boolean)) (by decide) rfl ?_
  intro p e s m args below meth c s₁ B hml hv
  obtain ⟨rfl, rfl, hK⟩ := hv
  have hx := B.exec
  have hb := B.bytes
  have hr := B.returns
  have hts := atoms_spec (ws := w_M_isRow) B.pre
  have ht : ∀ w9 ∈ gt, w9.before [.int w].toArray s = true := fun w9 h => hts w9 (List.mem_cons_of_mem _ h)
  have hown : s.vm.findClass "ValueTreesModel" = some m.cls := findClass_of_methodNamed B.named
  have hlocks := B.notSynchronized
  have hl := lv_entry ([.int w]) (n := 1) (Nat.le_of_ble_eq_true rfl)
  rw [lg_entry_eq]
  generalize (lg_sl ([.int w]) ++ List.replicate (1 - (lg_sl ([.int w])).length) Slot.unset).toArray = ls at hl ⊢
  have hl : lv_has ls 1 [(0, .int w)] := hl
  refine lv_iload_n hx hb d_M_isRow_0 rfl (lv_at hl 0 rfl) ?_
  refine lv_iconst (v := 5) hx hb d_M_isRow_1 (by decide) ?_
  refine lv_icmp_eq (tgt := 17) hx hb d_M_isRow_2 (by decide) (fun c1 => ?_) (fun c1 => ?_)
  · refine lv_iconst (v := 1) hx hb d_M_isRow_17 (by decide) ?_
    refine lv_goto (tgt := 22) hx hb d_M_isRow_18 (by decide) ?_
    exact z_zretR hx hb hr hlocks d_M_isRow_22 rfl (by repeat (first | rfl | rw [if_pos (by (revert c1; simp only [inR, isNum, isRw, isTr, hasV, Int32.lt_iff_toInt_lt, Int32.le_iff_toInt_le, ← Int32.toInt_inj, Int32.reduceToInt, z_m1, z_m2]; (try intros); omega))] | rw [if_neg (by (revert c1; simp only [inR, isNum, isRw, isTr, hasV, Int32.lt_iff_toInt_lt, Int32.le_iff_toInt_le, ← Int32.toInt_inj, Int32.reduceToInt, z_m1, z_m2]; (try intros); omega))]))
  · refine lv_iload_n hx hb d_M_isRow_5 rfl (lv_at hl 0 rfl) ?_
    refine lv_bipush (v := 6) hx hb d_M_isRow_6 (by decide) ?_
    refine lv_icmp_eq (tgt := 17) hx hb d_M_isRow_8 (by decide) (fun c2 => ?_) (fun c2 => ?_)
    · refine lv_iconst (v := 1) hx hb d_M_isRow_17 (by decide) ?_
      refine lv_goto (tgt := 22) hx hb d_M_isRow_18 (by decide) ?_
      exact z_zretR hx hb hr hlocks d_M_isRow_22 rfl (by repeat (first | rfl | rw [if_pos (by (revert c1 c2; simp only [inR, isNum, isRw, isTr, hasV, Int32.lt_iff_toInt_lt, Int32.le_iff_toInt_le, ← Int32.toInt_inj, Int32.reduceToInt, z_m1, z_m2]; (try intros); omega))] | rw [if_neg (by (revert c1 c2; simp only [inR, isNum, isRw, isTr, hasV, Int32.lt_iff_toInt_lt, Int32.le_iff_toInt_le, ← Int32.toInt_inj, Int32.reduceToInt, z_m1, z_m2]; (try intros); omega))]))
    · refine lv_iload_n hx hb d_M_isRow_11 rfl (lv_at hl 0 rfl) ?_
      refine lv_bipush (v := 7) hx hb d_M_isRow_12 (by decide) ?_
      refine lv_icmp_ne (tgt := 21) hx hb d_M_isRow_14 (by decide) (fun c3 => ?_) (fun c3 => ?_)
      · refine lv_iconst (v := 0) hx hb d_M_isRow_21 (by decide) ?_
        exact z_zretR hx hb hr hlocks d_M_isRow_22 rfl (by repeat (first | rfl | rw [if_pos (by (revert c1 c2 c3; simp only [inR, isNum, isRw, isTr, hasV, Int32.lt_iff_toInt_lt, Int32.le_iff_toInt_le, ← Int32.toInt_inj, Int32.reduceToInt, z_m1, z_m2]; (try intros); omega))] | rw [if_neg (by (revert c1 c2 c3; simp only [inR, isNum, isRw, isTr, hasV, Int32.lt_iff_toInt_lt, Int32.le_iff_toInt_le, ← Int32.toInt_inj, Int32.reduceToInt, z_m1, z_m2]; (try intros); omega))]))
      · refine lv_iconst (v := 1) hx hb d_M_isRow_17 (by decide) ?_
        refine lv_goto (tgt := 22) hx hb d_M_isRow_18 (by decide) ?_
        exact z_zretR hx hb hr hlocks d_M_isRow_22 rfl (by repeat (first | rfl | rw [if_pos (by (revert c1 c2 c3; simp only [inR, isNum, isRw, isTr, hasV, Int32.lt_iff_toInt_lt, Int32.le_iff_toInt_le, ← Int32.toInt_inj, Int32.reduceToInt, z_m1, z_m2]; (try intros); omega))] | rw [if_neg (by (revert c1 c2 c3; simp only [inR, isNum, isRw, isTr, hasV, Int32.lt_iff_toInt_lt, Int32.le_iff_toInt_le, ← Int32.toInt_inj, Int32.reduceToInt, z_m1, z_m2]; (try intros); omega))]))
abbrev b_M_isTree : ByteArray := prog_12_method_16_code
abbrev y_M_isTree : MethodName := ⟨"ValueTreesModel", "isTree", "(I)Z"⟩
abbrev w_M_isTree : List Cond := .code y_M_isTree b_M_isTree 1 (Option.some .boolean) :: gt
theorem hd_M_isTree : (y_M_isTree).cls ≠ "java/lang/invoke/MethodHandle" ∧ (y_M_isTree).cls ≠ "java/lang/invoke/VarHandle" ∧ (parseMethodDescriptor (y_M_isTree).desc).map (fun d => d.parameters.length) = some 1 := by decide +kernel
theorem d_M_isTree_0 : decode b_M_isTree 0 = .ok (.iload_n 0, 1) := by decide +kernel
theorem d_M_isTree_1 : decode b_M_isTree 1 = .ok (.bipush 12, 2) := by decide +kernel
theorem d_M_isTree_3 : decode b_M_isTree 3 = .ok (.if_icmp .eq 15, 3) := by decide +kernel
theorem d_M_isTree_6 : decode b_M_isTree 6 = .ok (.iload_n 0, 1) := by decide +kernel
theorem d_M_isTree_7 : decode b_M_isTree 7 = .ok (.bipush 15, 2) := by decide +kernel
theorem d_M_isTree_9 : decode b_M_isTree 9 = .ok (.if_icmp .eq 9, 3) := by decide +kernel
theorem d_M_isTree_12 : decode b_M_isTree 12 = .ok (.iload_n 0, 1) := by decide +kernel
theorem d_M_isTree_13 : decode b_M_isTree 13 = .ok (.bipush 16, 2) := by decide +kernel
theorem d_M_isTree_15 : decode b_M_isTree 15 = .ok (.if_icmp .ne 7, 3) := by decide +kernel
theorem d_M_isTree_18 : decode b_M_isTree 18 = .ok (.iconst 1, 1) := by decide +kernel
theorem d_M_isTree_19 : decode b_M_isTree 19 = .ok (.goto 4, 3) := by decide +kernel
theorem d_M_isTree_22 : decode b_M_isTree 22 = .ok (.iconst 0, 1) := by decide +kernel
theorem d_M_isTree_23 : decode b_M_isTree 23 = .ok (.ireturn, 1) := by decide +kernel
set_option maxHeartbeats 4000000 in
set_option maxRecDepth 100000 in
theorem c_M_isTree (l : Launch) (D : va_G) (dT : Nat → ClassId) (H : Heap) (w : Int32) : Met l y_M_isTree w_M_isTree ({ frames := 0, cells := 0, slots := 0, locals := 0 }) (z_P D dT [.int w] H) (z_R (fun v => v = .int (if isTr w then 1 else 0))) 0 0 (fun _ => False) := by
  refine Met.ofW (cc := b_M_isTree) (maxL := 1) (ret := (Option.some .boolean)) (by decide) rfl ?_
  intro p e s m args below meth c s₁ B hml hv
  obtain ⟨rfl, rfl, hK⟩ := hv
  have hx := B.exec
  have hb := B.bytes
  have hr := B.returns
  have hts := atoms_spec (ws := w_M_isTree) B.pre
  have ht : ∀ w9 ∈ gt, w9.before [.int w].toArray s = true := fun w9 h => hts w9 (List.mem_cons_of_mem _ h)
  have hown : s.vm.findClass "ValueTreesModel" = some m.cls := findClass_of_methodNamed B.named
  have hlocks := B.notSynchronized
  have hl := lv_entry ([.int w]) (n := 1) (Nat.le_of_ble_eq_true rfl)
  rw [lg_entry_eq]
  generalize (lg_sl ([.int w]) ++ List.replicate (1 - (lg_sl ([.int w])).length) Slot.unset).toArray = ls at hl ⊢
  have hl : lv_has ls 1 [(0, .int w)] := hl
  refine lv_iload_n hx hb d_M_isTree_0 rfl (lv_at hl 0 rfl) ?_
  refine lv_bipush (v := 12) hx hb d_M_isTree_1 (by decide) ?_
  refine lv_icmp_eq (tgt := 18) hx hb d_M_isTree_3 (by decide) (fun c1 => ?_) (fun c1 => ?_)
  · refine lv_iconst (v := 1) hx hb d_M_isTree_18 (by decide) ?_
    refine lv_goto (tgt := 23) hx hb d_M_isTree_19 (by decide) ?_
    exact z_zretR hx hb hr hlocks d_M_isTree_23 rfl (by repeat (first | rfl | rw [if_pos (by (revert c1; simp only [inR, isNum, isRw, isTr, hasV, Int32.lt_iff_toInt_lt, Int32.le_iff_toInt_le, ← Int32.toInt_inj, Int32.reduceToInt, z_m1, z_m2]; (try intros); omega))] | rw [if_neg (by (revert c1; simp only [inR, isNum, isRw, isTr, hasV, Int32.lt_iff_toInt_lt, Int32.le_iff_toInt_le, ← Int32.toInt_inj, Int32.reduceToInt, z_m1, z_m2]; (try intros); omega))]))
  · refine lv_iload_n hx hb d_M_isTree_6 rfl (lv_at hl 0 rfl) ?_
    refine lv_bipush (v := 15) hx hb d_M_isTree_7 (by decide) ?_
    refine lv_icmp_eq (tgt := 18) hx hb d_M_isTree_9 (by decide) (fun c2 => ?_) (fun c2 => ?_)
    · refine lv_iconst (v := 1) hx hb d_M_isTree_18 (by decide) ?_
      refine lv_goto (tgt := 23) hx hb d_M_isTree_19 (by decide) ?_
      exact z_zretR hx hb hr hlocks d_M_isTree_23 rfl (by repeat (first | rfl | rw [if_pos (by (revert c1 c2; simp only [inR, isNum, isRw, isTr, hasV, Int32.lt_iff_toInt_lt, Int32.le_iff_toInt_le, ← Int32.toInt_inj, Int32.reduceToInt, z_m1, z_m2]; (try intros); omega))] | rw [if_neg (by (revert c1 c2; simp only [inR, isNum, isRw, isTr, hasV, Int32.lt_iff_toInt_lt, Int32.le_iff_toInt_le, ← Int32.toInt_inj, Int32.reduceToInt, z_m1, z_m2]; (try intros); omega))]))
    · refine lv_iload_n hx hb d_M_isTree_12 rfl (lv_at hl 0 rfl) ?_
      refine lv_bipush (v := 16) hx hb d_M_isTree_13 (by decide) ?_
      refine lv_icmp_ne (tgt := 22) hx hb d_M_isTree_15 (by decide) (fun c3 => ?_) (fun c3 => ?_)
      · refine lv_iconst (v := 0) hx hb d_M_isTree_22 (by decide) ?_
        exact z_zretR hx hb hr hlocks d_M_isTree_23 rfl (by repeat (first | rfl | rw [if_pos (by (revert c1 c2 c3; simp only [inR, isNum, isRw, isTr, hasV, Int32.lt_iff_toInt_lt, Int32.le_iff_toInt_le, ← Int32.toInt_inj, Int32.reduceToInt, z_m1, z_m2]; (try intros); omega))] | rw [if_neg (by (revert c1 c2 c3; simp only [inR, isNum, isRw, isTr, hasV, Int32.lt_iff_toInt_lt, Int32.le_iff_toInt_le, ← Int32.toInt_inj, Int32.reduceToInt, z_m1, z_m2]; (try intros); omega))]))
      · refine lv_iconst (v := 1) hx hb d_M_isTree_18 (by decide) ?_
        refine lv_goto (tgt := 23) hx hb d_M_isTree_19 (by decide) ?_
        exact z_zretR hx hb hr hlocks d_M_isTree_23 rfl (by repeat (first | rfl | rw [if_pos (by (revert c1 c2 c3; simp only [inR, isNum, isRw, isTr, hasV, Int32.lt_iff_toInt_lt, Int32.le_iff_toInt_le, ← Int32.toInt_inj, Int32.reduceToInt, z_m1, z_m2]; (try intros); omega))] | rw [if_neg (by (revert c1 c2 c3; simp only [inR, isNum, isRw, isTr, hasV, Int32.lt_iff_toInt_lt, Int32.le_iff_toInt_le, ← Int32.toInt_inj, Int32.reduceToInt, z_m1, z_m2]; (try intros); omega))]))
abbrev b_M_base : ByteArray := prog_12_method_17_code
abbrev y_M_base : MethodName := ⟨"ValueTreesModel", "base", "(I)I"⟩
abbrev w_M_base : List Cond := .code y_M_base b_M_base 1 (Option.some .int) :: gt
theorem hd_M_base : (y_M_base).cls ≠ "java/lang/invoke/MethodHandle" ∧ (y_M_base).cls ≠ "java/lang/invoke/VarHandle" ∧ (parseMethodDescriptor (y_M_base).desc).map (fun d => d.parameters.length) = some 1 := by decide +kernel
theorem d_M_base_0 : decode b_M_base 0 = .ok (.sipush 160, 3) := by decide +kernel
theorem d_M_base_3 : decode b_M_base 3 = .ok (.iload_n 0, 1) := by decide +kernel
theorem d_M_base_4 : decode b_M_base 4 = .ok (.imul, 1) := by decide +kernel
theorem d_M_base_5 : decode b_M_base 5 = .ok (.ireturn, 1) := by decide +kernel
set_option maxHeartbeats 4000000 in
set_option maxRecDepth 100000 in
theorem c_M_base (l : Launch) (D : va_G) (dT : Nat → ClassId) (H : Heap) (r : Int32) : Met l y_M_base w_M_base ({ frames := 0, cells := 0, slots := 0, locals := 0 }) (z_P D dT [.int r] H) (z_R (fun v => v = .int (160 * r))) 0 0 (fun _ => False) := by
  refine Met.ofW (cc := b_M_base) (maxL := 1) (ret := (Option.some .int)) (by decide) rfl ?_
  intro p e s m args below meth c s₁ B hml hv
  obtain ⟨rfl, rfl, hK⟩ := hv
  have hx := B.exec
  have hb := B.bytes
  have hr := B.returns
  have hts := atoms_spec (ws := w_M_base) B.pre
  have ht : ∀ w9 ∈ gt, w9.before [.int r].toArray s = true := fun w9 h => hts w9 (List.mem_cons_of_mem _ h)
  have hown : s.vm.findClass "ValueTreesModel" = some m.cls := findClass_of_methodNamed B.named
  have hlocks := B.notSynchronized
  have hl := lv_entry ([.int r]) (n := 1) (Nat.le_of_ble_eq_true rfl)
  rw [lg_entry_eq]
  generalize (lg_sl ([.int r]) ++ List.replicate (1 - (lg_sl ([.int r])).length) Slot.unset).toArray = ls at hl ⊢
  have hl : lv_has ls 1 [(0, .int r)] := hl
  refine lv_sipush (v := 160) hx hb d_M_base_0 (by decide) ?_
  refine lv_iload_n hx hb d_M_base_3 rfl (lv_at hl 0 rfl) ?_
  refine lv_imul hx hb d_M_base_4 ?_
  exact z_iretR hx hb hr hlocks d_M_base_5 rfl
abbrev b_M_sign : ByteArray := prog_12_method_63_code
abbrev y_M_sign : MethodName := ⟨"ValueTreesModel", "sign", "(II)I"⟩
abbrev w_M_sign : List Cond := .code y_M_sign b_M_sign 3 (Option.some .int) :: gt
theorem hd_M_sign : (y_M_sign).cls ≠ "java/lang/invoke/MethodHandle" ∧ (y_M_sign).cls ≠ "java/lang/invoke/VarHandle" ∧ (parseMethodDescriptor (y_M_sign).desc).map (fun d => d.parameters.length) = some 2 := by decide +kernel
theorem d_M_sign_0 : decode b_M_sign 0 = .ok (.iload_n 1, 1) := by decide +kernel
theorem d_M_sign_1 : decode b_M_sign 1 = .ok (.iload_n 2, 1) := by decide +kernel
theorem d_M_sign_2 : decode b_M_sign 2 = .ok (.if_icmp .ge 7, 3) := by decide +kernel
theorem d_M_sign_5 : decode b_M_sign 5 = .ok (.iconst (-1), 1) := by decide +kernel
theorem d_M_sign_6 : decode b_M_sign 6 = .ok (.goto 13, 3) := by decide +kernel
theorem d_M_sign_9 : decode b_M_sign 9 = .ok (.iload_n 1, 1) := by decide +kernel
theorem d_M_sign_10 : decode b_M_sign 10 = .ok (.iload_n 2, 1) := by decide +kernel
theorem d_M_sign_11 : decode b_M_sign 11 = .ok (.if_icmp .le 7, 3) := by decide +kernel
theorem d_M_sign_14 : decode b_M_sign 14 = .ok (.iconst 1, 1) := by decide +kernel
theorem d_M_sign_15 : decode b_M_sign 15 = .ok (.goto 4, 3) := by decide +kernel
theorem d_M_sign_18 : decode b_M_sign 18 = .ok (.iconst 0, 1) := by decide +kernel
theorem d_M_sign_19 : decode b_M_sign 19 = .ok (.ireturn, 1) := by decide +kernel
set_option maxHeartbeats 4000000 in
set_option maxRecDepth 100000 in
theorem c_M_sign (l : Launch) (D : va_G) (dT : Nat → ClassId) (H : Heap) (h : Nat) (a b : Int32) : Met l y_M_sign w_M_sign ({ frames := 0, cells := 0, slots := 0, locals := 0 }) (z_P D dT [.ref h, .int a, .int b] H) (z_R (fun v => v = .int (if a < b then -1 else if b < a then 1 else 0))) 0 0 (fun _ => False) := by
  refine Met.ofW (cc := b_M_sign) (maxL := 3) (ret := (Option.some .int)) (by decide) rfl ?_
  intro p e s m args below meth c s₁ B hml hv
  obtain ⟨rfl, rfl, hK⟩ := hv
  have hx := B.exec
  have hb := B.bytes
  have hr := B.returns
  have hts := atoms_spec (ws := w_M_sign) B.pre
  have ht : ∀ w9 ∈ gt, w9.before [.ref h, .int a, .int b].toArray s = true := fun w9 h => hts w9 (List.mem_cons_of_mem _ h)
  have hown : s.vm.findClass "ValueTreesModel" = some m.cls := findClass_of_methodNamed B.named
  have hlocks := B.notSynchronized
  have hl := lv_entry ([.ref h, .int a, .int b]) (n := 3) (Nat.le_of_ble_eq_true rfl)
  rw [lg_entry_eq]
  generalize (lg_sl ([.ref h, .int a, .int b]) ++ List.replicate (3 - (lg_sl ([.ref h, .int a, .int b])).length) Slot.unset).toArray = ls at hl ⊢
  have hl : lv_has ls 3 [(0, .ref h), (1, .int a), (2, .int b)] := hl
  refine lv_iload_n hx hb d_M_sign_0 rfl (lv_at hl 1 rfl) ?_
  refine lv_iload_n hx hb d_M_sign_1 rfl (lv_at hl 2 rfl) ?_
  refine lv_icmp_ge (tgt := 9) hx hb d_M_sign_2 (by decide) (fun c1 => ?_) (fun c1 => ?_)
  · refine lv_iload_n hx hb d_M_sign_9 rfl (lv_at hl 1 rfl) ?_
    refine lv_iload_n hx hb d_M_sign_10 rfl (lv_at hl 2 rfl) ?_
    refine lv_icmp_le (tgt := 18) hx hb d_M_sign_11 (by decide) (fun c2 => ?_) (fun c2 => ?_)
    · refine lv_iconst (v := 0) hx hb d_M_sign_18 (by decide) ?_
      exact z_iretR hx hb hr hlocks d_M_sign_19 (by repeat (first | rfl | rw [if_pos (by (revert c1 c2; simp only [inR, isNum, isRw, isTr, hasV, Int32.lt_iff_toInt_lt, Int32.le_iff_toInt_le, ← Int32.toInt_inj, Int32.reduceToInt, z_m1, z_m2]; (try intros); omega))] | rw [if_neg (by (revert c1 c2; simp only [inR, isNum, isRw, isTr, hasV, Int32.lt_iff_toInt_lt, Int32.le_iff_toInt_le, ← Int32.toInt_inj, Int32.reduceToInt, z_m1, z_m2]; (try intros); omega))]))
    · refine lv_iconst (v := 1) hx hb d_M_sign_14 (by decide) ?_
      refine lv_goto (tgt := 19) hx hb d_M_sign_15 (by decide) ?_
      exact z_iretR hx hb hr hlocks d_M_sign_19 (by repeat (first | rfl | rw [if_pos (by (revert c1 c2; simp only [inR, isNum, isRw, isTr, hasV, Int32.lt_iff_toInt_lt, Int32.le_iff_toInt_le, ← Int32.toInt_inj, Int32.reduceToInt, z_m1, z_m2]; (try intros); omega))] | rw [if_neg (by (revert c1 c2; simp only [inR, isNum, isRw, isTr, hasV, Int32.lt_iff_toInt_lt, Int32.le_iff_toInt_le, ← Int32.toInt_inj, Int32.reduceToInt, z_m1, z_m2]; (try intros); omega))]))
  · refine lv_iconst (v := (-1)) hx hb d_M_sign_5 (by decide) ?_
    refine lv_goto (tgt := 19) hx hb d_M_sign_6 (by decide) ?_
    exact z_iretR hx hb hr hlocks d_M_sign_19 (by repeat (first | rfl | rw [if_pos (by (revert c1; simp only [inR, isNum, isRw, isTr, hasV, Int32.lt_iff_toInt_lt, Int32.le_iff_toInt_le, ← Int32.toInt_inj, Int32.reduceToInt, z_m1, z_m2]; (try intros); omega))] | rw [if_neg (by (revert c1; simp only [inR, isNum, isRw, isTr, hasV, Int32.lt_iff_toInt_lt, Int32.le_iff_toInt_le, ← Int32.toInt_inj, Int32.reduceToInt, z_m1, z_m2]; (try intros); omega))]))
abbrev b_V_intOrder : ByteArray := prog_1_method_44_code
abbrev y_V_intOrder : MethodName := ⟨"ValueTrees", "intOrder", "(II)I"⟩
abbrev w_V_intOrder : List Cond := .code y_V_intOrder b_V_intOrder 2 (Option.some .int) :: gt
theorem hd_V_intOrder : (y_V_intOrder).cls ≠ "java/lang/invoke/MethodHandle" ∧ (y_V_intOrder).cls ≠ "java/lang/invoke/VarHandle" ∧ (parseMethodDescriptor (y_V_intOrder).desc).map (fun d => d.parameters.length) = some 2 := by decide +kernel
theorem d_V_intOrder_0 : decode b_V_intOrder 0 = .ok (.iload_n 0, 1) := by decide +kernel
theorem d_V_intOrder_1 : decode b_V_intOrder 1 = .ok (.iload_n 1, 1) := by decide +kernel
theorem d_V_intOrder_2 : decode b_V_intOrder 2 = .ok (.if_icmp .ne 5, 3) := by decide +kernel
theorem d_V_intOrder_5 : decode b_V_intOrder 5 = .ok (.iconst 0, 1) := by decide +kernel
theorem d_V_intOrder_6 : decode b_V_intOrder 6 = .ok (.ireturn, 1) := by decide +kernel
theorem d_V_intOrder_7 : decode b_V_intOrder 7 = .ok (.iload_n 0, 1) := by decide +kernel
theorem d_V_intOrder_8 : decode b_V_intOrder 8 = .ok (.iload_n 1, 1) := by decide +kernel
theorem d_V_intOrder_9 : decode b_V_intOrder 9 = .ok (.if_icmp .ge 7, 3) := by decide +kernel
theorem d_V_intOrder_12 : decode b_V_intOrder 12 = .ok (.iconst (-1), 1) := by decide +kernel
theorem d_V_intOrder_13 : decode b_V_intOrder 13 = .ok (.goto 4, 3) := by decide +kernel
theorem d_V_intOrder_16 : decode b_V_intOrder 16 = .ok (.iconst 1, 1) := by decide +kernel
theorem d_V_intOrder_17 : decode b_V_intOrder 17 = .ok (.ireturn, 1) := by decide +kernel
set_option maxHeartbeats 4000000 in
set_option maxRecDepth 100000 in
theorem c_V_intOrder (l : Launch) (D : va_G) (dT : Nat → ClassId) (H : Heap) (a b : Int32) : Met l y_V_intOrder w_V_intOrder ({ frames := 0, cells := 0, slots := 0, locals := 0 }) (z_P D dT [.int a, .int b] H) (z_R (fun v => v = .int (if a < b then -1 else if b < a then 1 else 0))) 0 0 (fun _ => False) := by
  refine Met.ofW (cc := b_V_intOrder) (maxL := 2) (ret := (Option.some .int)) (by decide) rfl ?_
  intro p e s m args below meth c s₁ B hml hv
  obtain ⟨rfl, rfl, hK⟩ := hv
  have hx := B.exec
  have hb := B.bytes
  have hr := B.returns
  have hts := atoms_spec (ws := w_V_intOrder) B.pre
  have ht : ∀ w9 ∈ gt, w9.before [.int a, .int b].toArray s = true := fun w9 h => hts w9 (List.mem_cons_of_mem _ h)
  have hown : s.vm.findClass "ValueTrees" = some m.cls := findClass_of_methodNamed B.named
  have hlocks := B.notSynchronized
  have hl := lv_entry ([.int a, .int b]) (n := 2) (Nat.le_of_ble_eq_true rfl)
  rw [lg_entry_eq]
  generalize (lg_sl ([.int a, .int b]) ++ List.replicate (2 - (lg_sl ([.int a, .int b])).length) Slot.unset).toArray = ls at hl ⊢
  have hl : lv_has ls 2 [(0, .int a), (1, .int b)] := hl
  refine lv_iload_n hx hb d_V_intOrder_0 rfl (lv_at hl 0 rfl) ?_
  refine lv_iload_n hx hb d_V_intOrder_1 rfl (lv_at hl 1 rfl) ?_
  refine lv_icmp_ne (tgt := 7) hx hb d_V_intOrder_2 (by decide) (fun c1 => ?_) (fun c1 => ?_)
  · refine lv_iload_n hx hb d_V_intOrder_7 rfl (lv_at hl 0 rfl) ?_
    refine lv_iload_n hx hb d_V_intOrder_8 rfl (lv_at hl 1 rfl) ?_
    refine lv_icmp_ge (tgt := 16) hx hb d_V_intOrder_9 (by decide) (fun c2 => ?_) (fun c2 => ?_)
    · refine lv_iconst (v := 1) hx hb d_V_intOrder_16 (by decide) ?_
      exact z_iretR hx hb hr hlocks d_V_intOrder_17 (by repeat (first | rfl | rw [if_pos (by (revert c1 c2; simp only [inR, isNum, isRw, isTr, hasV, Int32.lt_iff_toInt_lt, Int32.le_iff_toInt_le, ← Int32.toInt_inj, Int32.reduceToInt, z_m1, z_m2]; (try intros); omega))] | rw [if_neg (by (revert c1 c2; simp only [inR, isNum, isRw, isTr, hasV, Int32.lt_iff_toInt_lt, Int32.le_iff_toInt_le, ← Int32.toInt_inj, Int32.reduceToInt, z_m1, z_m2]; (try intros); omega))]))
    · refine lv_iconst (v := (-1)) hx hb d_V_intOrder_12 (by decide) ?_
      refine lv_goto (tgt := 17) hx hb d_V_intOrder_13 (by decide) ?_
      exact z_iretR hx hb hr hlocks d_V_intOrder_17 (by repeat (first | rfl | rw [if_pos (by (revert c1 c2; simp only [inR, isNum, isRw, isTr, hasV, Int32.lt_iff_toInt_lt, Int32.le_iff_toInt_le, ← Int32.toInt_inj, Int32.reduceToInt, z_m1, z_m2]; (try intros); omega))] | rw [if_neg (by (revert c1 c2; simp only [inR, isNum, isRw, isTr, hasV, Int32.lt_iff_toInt_lt, Int32.le_iff_toInt_le, ← Int32.toInt_inj, Int32.reduceToInt, z_m1, z_m2]; (try intros); omega))]))
  · refine lv_iconst (v := 0) hx hb d_V_intOrder_5 (by decide) ?_
    exact z_iretR hx hb hr hlocks d_V_intOrder_6 (by repeat (first | rfl | rw [if_pos (by (revert c1; simp only [inR, isNum, isRw, isTr, hasV, Int32.lt_iff_toInt_lt, Int32.le_iff_toInt_le, ← Int32.toInt_inj, Int32.reduceToInt, z_m1, z_m2]; (try intros); omega))] | rw [if_neg (by (revert c1; simp only [inR, isNum, isRw, isTr, hasV, Int32.lt_iff_toInt_lt, Int32.le_iff_toInt_le, ← Int32.toInt_inj, Int32.reduceToInt, z_m1, z_m2]; (try intros); omega))]))
abbrev b_Whole_lengthOf : ByteArray := prog_10_method_2_code
abbrev y_Whole_lengthOf : MethodName := ⟨"ValueTrees$Whole", "lengthOf", "(I)I"⟩
abbrev w_Whole_lengthOf : List Cond := .code y_Whole_lengthOf b_Whole_lengthOf 1 (Option.some .int) :: gt
theorem hd_Whole_lengthOf : (y_Whole_lengthOf).cls ≠ "java/lang/invoke/MethodHandle" ∧ (y_Whole_lengthOf).cls ≠ "java/lang/invoke/VarHandle" ∧ (parseMethodDescriptor (y_Whole_lengthOf).desc).map (fun d => d.parameters.length) = some 1 := by decide +kernel
theorem d_Whole_lengthOf_0 : decode b_Whole_lengthOf 0 = .ok (.iconst 2, 1) := by decide +kernel
theorem d_Whole_lengthOf_1 : decode b_Whole_lengthOf 1 = .ok (.iload_n 0, 1) := by decide +kernel
theorem d_Whole_lengthOf_2 : decode b_Whole_lengthOf 2 = .ok (.bipush 7, 2) := by decide +kernel
theorem d_Whole_lengthOf_4 : decode b_Whole_lengthOf 4 = .ok (.idiv, 1) := by decide +kernel
theorem d_Whole_lengthOf_5 : decode b_Whole_lengthOf 5 = .ok (.iadd, 1) := by decide +kernel
theorem d_Whole_lengthOf_6 : decode b_Whole_lengthOf 6 = .ok (.ireturn, 1) := by decide +kernel
set_option maxHeartbeats 4000000 in
set_option maxRecDepth 100000 in
theorem c_Whole_lengthOf (l : Launch) (D : va_G) (dT : Nat → ClassId) (H : Heap) (b : Int32) : Met l y_Whole_lengthOf w_Whole_lengthOf ({ frames := 0, cells := 0, slots := 0, locals := 0 }) (z_P D dT [.int b] H) (z_R (fun v => v = .int (2 + b / 7))) 0 0 (fun _ => False) := by
  refine Met.ofW (cc := b_Whole_lengthOf) (maxL := 1) (ret := (Option.some .int)) (by decide) rfl ?_
  intro p e s m args below meth c s₁ B hml hv
  obtain ⟨rfl, rfl, hK⟩ := hv
  have hx := B.exec
  have hb := B.bytes
  have hr := B.returns
  have hts := atoms_spec (ws := w_Whole_lengthOf) B.pre
  have ht : ∀ w9 ∈ gt, w9.before [.int b].toArray s = true := fun w9 h => hts w9 (List.mem_cons_of_mem _ h)
  have hown : s.vm.findClass "ValueTrees$Whole" = some m.cls := findClass_of_methodNamed B.named
  have hlocks := B.notSynchronized
  have hl := lv_entry ([.int b]) (n := 1) (Nat.le_of_ble_eq_true rfl)
  rw [lg_entry_eq]
  generalize (lg_sl ([.int b]) ++ List.replicate (1 - (lg_sl ([.int b])).length) Slot.unset).toArray = ls at hl ⊢
  have hl : lv_has ls 1 [(0, .int b)] := hl
  refine lv_iconst (v := 2) hx hb d_Whole_lengthOf_0 (by decide) ?_
  refine lv_iload_n hx hb d_Whole_lengthOf_1 rfl (lv_at hl 0 rfl) ?_
  refine lv_bipush (v := 7) hx hb d_Whole_lengthOf_2 (by decide) ?_
  refine lv_idiv hx hb d_Whole_lengthOf_4 (by decide) ?_
  refine lv_iadd hx hb d_Whole_lengthOf_5 ?_
  exact z_iretR hx hb hr hlocks d_Whole_lengthOf_6 rfl
abbrev b_V_digitCount : ByteArray := prog_1_method_41_code
abbrev y_V_digitCount : MethodName := ⟨"ValueTrees", "digitCount", "(I)I"⟩
abbrev w_V_digitCount : List Cond := .code y_V_digitCount b_V_digitCount 1 (Option.some .int) :: gt
theorem hd_V_digitCount : (y_V_digitCount).cls ≠ "java/lang/invoke/MethodHandle" ∧ (y_V_digitCount).cls ≠ "java/lang/invoke/VarHandle" ∧ (parseMethodDescriptor (y_V_digitCount).desc).map (fun d => d.parameters.length) = some 1 := by decide +kernel
theorem d_V_digitCount_0 : decode b_V_digitCount 0 = .ok (.iload_n 0, 1) := by decide +kernel
theorem d_V_digitCount_1 : decode b_V_digitCount 1 = .ok (.bipush 16, 2) := by decide +kernel
theorem d_V_digitCount_3 : decode b_V_digitCount 3 = .ok (.iadd, 1) := by decide +kernel
theorem d_V_digitCount_4 : decode b_V_digitCount 4 = .ok (.iconst 1, 1) := by decide +kernel
theorem d_V_digitCount_5 : decode b_V_digitCount 5 = .ok (.isub, 1) := by decide +kernel
theorem d_V_digitCount_6 : decode b_V_digitCount 6 = .ok (.bipush 16, 2) := by decide +kernel
theorem d_V_digitCount_8 : decode b_V_digitCount 8 = .ok (.idiv, 1) := by decide +kernel
theorem d_V_digitCount_9 : decode b_V_digitCount 9 = .ok (.ireturn, 1) := by decide +kernel
set_option maxHeartbeats 4000000 in
set_option maxRecDepth 100000 in
theorem c_V_digitCount (l : Launch) (D : va_G) (dT : Nat → ClassId) (H : Heap) (b : Int32) : Met l y_V_digitCount w_V_digitCount ({ frames := 0, cells := 0, slots := 0, locals := 0 }) (z_P D dT [.int b] H) (z_R (fun v => v = .int ((b + 16 - 1) / 16))) 0 0 (fun _ => False) := by
  refine Met.ofW (cc := b_V_digitCount) (maxL := 1) (ret := (Option.some .int)) (by decide) rfl ?_
  intro p e s m args below meth c s₁ B hml hv
  obtain ⟨rfl, rfl, hK⟩ := hv
  have hx := B.exec
  have hb := B.bytes
  have hr := B.returns
  have hts := atoms_spec (ws := w_V_digitCount) B.pre
  have ht : ∀ w9 ∈ gt, w9.before [.int b].toArray s = true := fun w9 h => hts w9 (List.mem_cons_of_mem _ h)
  have hown : s.vm.findClass "ValueTrees" = some m.cls := findClass_of_methodNamed B.named
  have hlocks := B.notSynchronized
  have hl := lv_entry ([.int b]) (n := 1) (Nat.le_of_ble_eq_true rfl)
  rw [lg_entry_eq]
  generalize (lg_sl ([.int b]) ++ List.replicate (1 - (lg_sl ([.int b])).length) Slot.unset).toArray = ls at hl ⊢
  have hl : lv_has ls 1 [(0, .int b)] := hl
  refine lv_iload_n hx hb d_V_digitCount_0 rfl (lv_at hl 0 rfl) ?_
  refine lv_bipush (v := 16) hx hb d_V_digitCount_1 (by decide) ?_
  refine lv_iadd hx hb d_V_digitCount_3 ?_
  refine lv_iconst (v := 1) hx hb d_V_digitCount_4 (by decide) ?_
  refine lv_isub hx hb d_V_digitCount_5 ?_
  refine lv_bipush (v := 16) hx hb d_V_digitCount_6 (by decide) ?_
  refine lv_idiv hx hb d_V_digitCount_8 (by decide) ?_
  exact z_iretR hx hb hr hlocks d_V_digitCount_9 rfl
