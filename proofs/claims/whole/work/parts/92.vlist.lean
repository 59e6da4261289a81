abbrev b_ASup_newLength : ByteArray := prog_27_method_27_code
abbrev y_ASup_newLength : MethodName := ⟨"jdk/internal/util/ArraysSupport", "newLength", "(III)I"⟩
abbrev w_ASup_newLength : List Cond := .code y_ASup_newLength b_ASup_newLength 4 (Option.some .int) :: gt
theorem hd_ASup_newLength : (y_ASup_newLength).cls ≠ "java/lang/invoke/MethodHandle" ∧ (y_ASup_newLength).cls ≠ "java/lang/invoke/VarHandle" ∧ (parseMethodDescriptor (y_ASup_newLength).desc).map (fun d => d.parameters.length) = some 3 := by decide +kernel
theorem d_ASup_newLength_0 : decode b_ASup_newLength 0 = .ok (.iload_n 0, 1) := by decide +kernel
theorem d_ASup_newLength_1 : decode b_ASup_newLength 1 = .ok (.iload_n 1, 1) := by decide +kernel
theorem d_ASup_newLength_2 : decode b_ASup_newLength 2 = .ok (.iload_n 2, 1) := by decide +kernel
theorem d_ASup_newLength_3 : decode b_ASup_newLength 3 = .ok (.invokestatic 194, 3) := by decide +kernel
theorem d_ASup_newLength_6 : decode b_ASup_newLength 6 = .ok (.iadd, 1) := by decide +kernel
theorem d_ASup_newLength_7 : decode b_ASup_newLength 7 = .ok (.istore_n 3, 1) := by decide +kernel
theorem d_ASup_newLength_8 : decode b_ASup_newLength 8 = .ok (.iconst 0, 1) := by decide +kernel
theorem d_ASup_newLength_9 : decode b_ASup_newLength 9 = .ok (.iload_n 3, 1) := by decide +kernel
theorem d_ASup_newLength_10 : decode b_ASup_newLength 10 = .ok (.if_icmp .ge 11, 3) := by decide +kernel
theorem d_ASup_newLength_13 : decode b_ASup_newLength 13 = .ok (.iload_n 3, 1) := by decide +kernel
theorem d_ASup_newLength_14 : decode b_ASup_newLength 14 = .ok (.ldc 200, 2) := by decide +kernel
theorem d_ASup_newLength_16 : decode b_ASup_newLength 16 = .ok (.if_icmp .gt 5, 3) := by decide +kernel
theorem d_ASup_newLength_19 : decode b_ASup_newLength 19 = .ok (.iload_n 3, 1) := by decide +kernel
theorem d_ASup_newLength_20 : decode b_ASup_newLength 20 = .ok (.ireturn, 1) := by decide +kernel
theorem d_ASup_newLength_21 : decode b_ASup_newLength 21 = .ok (.iload_n 0, 1) := by decide +kernel
theorem d_ASup_newLength_22 : decode b_ASup_newLength 22 = .ok (.iload_n 1, 1) := by decide +kernel
theorem d_ASup_newLength_23 : decode b_ASup_newLength 23 = .ok (.invokestatic 201, 3) := by decide +kernel
theorem d_ASup_newLength_26 : decode b_ASup_newLength 26 = .ok (.ireturn, 1) := by decide +kernel
set_option maxHeartbeats 4000000 in
set_option maxRecDepth 100000 in
theorem c_newLength (l : Launch) (D : va_G) (dT : Nat → ClassId) (H : Heap) (n : Nat) (hn : n ≤ 1999) : Met l y_ASup_newLength w_ASup_newLength ({ frames := 1, cells := 0, slots := 0, locals := 21 }) (z_P D dT [.int (nI n), .int (nI 1), .int (nI (n / 2))] H) (z_R (fun v => v = .int (nI (gwn n)))) 0 0 (fun _ => False) := by
  have hgw := gwn_le hn
  refine Met.ofW (cc := b_ASup_newLength) (maxL := 4) (ret := (Option.some .int)) (by decide) rfl ?_
  intro p e s m args below meth c s₁ B hml hv
  obtain ⟨rfl, rfl, hK⟩ := hv
  have hx := B.exec
  have hb := B.bytes
  have hr := B.returns
  have hts := atoms_spec (ws := w_ASup_newLength) B.pre
  have ht : ∀ w9 ∈ gt, w9.before [.int (nI n), .int (nI 1), .int (nI (n / 2))].toArray s = true := fun w9 h => hts w9 (List.mem_cons_of_mem _ h)
  have hown : s.vm.findClass "jdk/internal/util/ArraysSupport" = some m.cls := findClass_of_methodNamed B.named
  have hlocks := B.notSynchronized
  have hl := lv_entry ([.int (nI n), .int (nI 1), .int (nI (n / 2))]) (n := 4) (Nat.le_of_ble_eq_true rfl)
  rw [lg_entry_eq]
  generalize (lg_sl ([.int (nI n), .int (nI 1), .int (nI (n / 2))]) ++ List.replicate (4 - (lg_sl ([.int (nI n), .int (nI 1), .int (nI (n / 2))])).length) Slot.unset).toArray = ls at hl ⊢
  have hl : lv_has ls 4 [(0, .int (nI n)), (1, .int (nI 1)), (2, .int (nI (n / 2)))] := hl
  refine lv_iload_n hx hb d_ASup_newLength_0 rfl (lv_at hl 0 rfl) ?_
  refine lv_iload_n hx hb d_ASup_newLength_1 rfl (lv_at hl 1 rfl) ?_
  refine lv_iload_n hx hb d_ASup_newLength_2 rfl (lv_at hl 2 rfl) ?_
  refine va_mmax hx hb (hml.trans hl.1.symm) hown (ht _ q104) (ht _ q105) (ht _ q7) (ht _ q106) (Nat.le_of_ble_eq_true rfl) (Nat.le_of_ble_eq_true rfl) (Nat.le_of_ble_eq_true rfl) (Nat.le_of_ble_eq_true rfl) d_ASup_newLength_3 ?_
  have hmx : ((if (nI 1) < (nI (n / 2)) then (nI (n / 2)) else (nI 1)) : Int32) = nI (if 1 < n / 2 then n / 2 else 1) := by
    by_cases h9 : 1 < n / 2
    · rw [if_pos h9, if_pos ((nI_ltI (a := 1) (b := n / 2) (by decide) (by omega)).mpr h9)]
    · rw [if_neg h9, if_neg (fun h8 => h9 ((nI_ltI (a := 1) (b := n / 2) (by decide) (by omega)).mp h8))]
  rw [hmx]
  refine lv_iadd hx hb d_ASup_newLength_6 ?_
  rw [show (((nI n) + (nI (if 1 < n / 2 then n / 2 else 1))) : Int32) = nI (gwn n) from nI_add _ _]
  refine lv_istore_n (lv' := [(3, .int (nI (gwn n))), (0, .int (nI n)), (1, .int (nI 1)), (2, .int (nI (n / 2)))]) hx hb d_ASup_newLength_7 rfl hl (by decide) rfl (fun ls hl => ?_)
  refine lv_iconst (v := 0) hx hb d_ASup_newLength_8 (by decide) ?_
  refine lv_iload_n hx hb d_ASup_newLength_9 rfl (lv_at hl 0 rfl) ?_
  refine lv_icmp_ge (tgt := 21) hx hb d_ASup_newLength_10 (by decide) (fun c1 => absurd c1 (fun h9 => absurd ((nI_leI (a := gwn n) (b := 0) (by omega) (by decide)).mp h9) (by omega))) (fun c1 => ?_)
  refine lv_iload_n hx hb d_ASup_newLength_13 rfl (lv_at hl 0 rfl) ?_
  refine lv_ldc (v := 2147483639) hx hb hown (hts (.constant "jdk/internal/util/ArraysSupport" 200 2147483639) (by decide +kernel)) d_ASup_newLength_14 ?_
  refine lv_icmp_gt (tgt := 21) hx hb d_ASup_newLength_16 (by decide) (fun c2 => absurd c2 (fun h9 => absurd ((nI_ltI (a := 2147483639) (b := gwn n) (by decide) (by omega)).mp h9) (by omega))) (fun c2 => ?_)
  refine lv_iload_n hx hb d_ASup_newLength_19 rfl (lv_at hl 0 rfl) ?_
  exact z_iretR hx hb hr hlocks d_ASup_newLength_20 rfl
abbrev b_Ars_copyOf2 : ByteArray := prog_21_method_120_code
abbrev y_Ars_copyOf2 : MethodName := ⟨"java/util/Arrays", "copyOf", "([Ljava/lang/Object;ILjava/lang/Class;)[Ljava/lang/Object;"⟩
abbrev w_Ars_copyOf2 : List Cond := .code y_Ars_copyOf2 b_Ars_copyOf2 4 (Option.some (.array (.object "java/lang/Object"))) :: gt
theorem hd_Ars_copyOf2 : (y_Ars_copyOf2).cls ≠ "java/lang/invoke/MethodHandle" ∧ (y_Ars_copyOf2).cls ≠ "java/lang/invoke/VarHandle" ∧ (parseMethodDescriptor (y_Ars_copyOf2).desc).map (fun d => d.parameters.length) = some 3 := by decide +kernel
theorem d_Ars_copyOf2_0 : decode b_Ars_copyOf2 0 = .ok (.aload_n 2, 1) := by decide +kernel
theorem d_Ars_copyOf2_1 : decode b_Ars_copyOf2 1 = .ok (.ldc 110, 2) := by decide +kernel
theorem d_Ars_copyOf2_3 : decode b_Ars_copyOf2 3 = .ok (.if_acmp .ne 10, 3) := by decide +kernel
theorem d_Ars_copyOf2_6 : decode b_Ars_copyOf2 6 = .ok (.iload_n 1, 1) := by decide +kernel
theorem d_Ars_copyOf2_7 : decode b_Ars_copyOf2 7 = .ok (.anewarray 2, 3) := by decide +kernel
theorem d_Ars_copyOf2_10 : decode b_Ars_copyOf2 10 = .ok (.goto 14, 3) := by decide +kernel
theorem d_Ars_copyOf2_13 : decode b_Ars_copyOf2 13 = .ok (.aload_n 2, 1) := by decide +kernel
theorem d_Ars_copyOf2_14 : decode b_Ars_copyOf2 14 = .ok (.invokevirtual 90, 3) := by decide +kernel
theorem d_Ars_copyOf2_17 : decode b_Ars_copyOf2 17 = .ok (.iload_n 1, 1) := by decide +kernel
theorem d_Ars_copyOf2_18 : decode b_Ars_copyOf2 18 = .ok (.invokestatic 95, 3) := by decide +kernel
theorem d_Ars_copyOf2_21 : decode b_Ars_copyOf2 21 = .ok (.checkcast 110, 3) := by decide +kernel
theorem d_Ars_copyOf2_24 : decode b_Ars_copyOf2 24 = .ok (.astore_n 3, 1) := by decide +kernel
theorem d_Ars_copyOf2_25 : decode b_Ars_copyOf2 25 = .ok (.aload_n 0, 1) := by decide +kernel
theorem d_Ars_copyOf2_26 : decode b_Ars_copyOf2 26 = .ok (.iconst 0, 1) := by decide +kernel
theorem d_Ars_copyOf2_27 : decode b_Ars_copyOf2 27 = .ok (.aload_n 3, 1) := by decide +kernel
theorem d_Ars_copyOf2_28 : decode b_Ars_copyOf2 28 = .ok (.iconst 0, 1) := by decide +kernel
theorem d_Ars_copyOf2_29 : decode b_Ars_copyOf2 29 = .ok (.aload_n 0, 1) := by decide +kernel
theorem d_Ars_copyOf2_30 : decode b_Ars_copyOf2 30 = .ok (.arraylength, 1) := by decide +kernel
theorem d_Ars_copyOf2_31 : decode b_Ars_copyOf2 31 = .ok (.iload_n 1, 1) := by decide +kernel
theorem d_Ars_copyOf2_32 : decode b_Ars_copyOf2 32 = .ok (.invokestatic 304, 3) := by decide +kernel
theorem d_Ars_copyOf2_35 : decode b_Ars_copyOf2 35 = .ok (.invokestatic 150, 3) := by decide +kernel
theorem d_Ars_copyOf2_38 : decode b_Ars_copyOf2 38 = .ok (.aload_n 3, 1) := by decide +kernel
theorem d_Ars_copyOf2_39 : decode b_Ars_copyOf2 39 = .ok (.areturn, 1) := by decide +kernel
set_option maxHeartbeats 4000000 in
set_option maxRecDepth 100000 in
theorem c_copyOf2 (l : Launch) (D : va_G) (dT : Nat → ClassId) (H : Heap) (a0 n : Nat) (g : Nat → Option Nat) (h0 : va_at D cls (a0, .inl (dT 2, n, .inr (.inr (.inr (.inr g))))) H) (hn : n ≤ 1999) (hT : allT D g n H) (mi : Nat) : Met l y_Ars_copyOf2 w_Ars_copyOf2 ({ frames := 1, cells := 1, slots := 3000, locals := 21 }) (z_PM D dT [.ref a0, .int (nI (gwn n)), .ref mi] H mi) (z_Q (fun q => q = a0 ∨ H.size ≤ q) (fun v H1 => ∃ q g1, v = some (.ref q) ∧ H.size ≤ q ∧ va_at D cls (a0, .inl (dT 2, n, .inr (.inr (.inr (.inr g))))) H1 ∧ va_at D cls (q, .inl (dT 2, (gwn n), .inr (.inr (.inr (.inr g1))))) H1 ∧ ∀ j, j < n → g1 j = g j)) 1 3000 (fun q => q = a0 ∨ H.size ≤ q) := by
  have hgw := gwn_le hn
  refine Met.ofW (cc := b_Ars_copyOf2) (maxL := 4) (ret := (Option.some (.array (.object "java/lang/Object")))) (by decide) rfl ?_
  intro p e s m args below meth c s₁ B hml hv
  obtain ⟨rfl, rfl, hK, hMi⟩ := hv
  have hx := B.exec
  have hb := B.bytes
  have hr := B.returns
  have hts := atoms_spec (ws := w_Ars_copyOf2) B.pre
  have ht : ∀ w9 ∈ gt, w9.before [.ref a0, .int (nI (gwn n)), .ref mi].toArray s = true := fun w9 h => hts w9 (List.mem_cons_of_mem _ h)
  have hown : s.vm.findClass "java/util/Arrays" = some m.cls := findClass_of_methodNamed B.named
  have hlocks := B.notSynchronized
  have hS : va_S (fun q => q = a0 ∨ s.heap.size ≤ q) s.heap s.heap [] := va_S.rf
  have hl := lv_entry ([.ref a0, .int (nI (gwn n)), .ref mi]) (n := 4) (Nat.le_of_ble_eq_true rfl)
  rw [lg_entry_eq]
  generalize (lg_sl ([.ref a0, .int (nI (gwn n)), .ref mi]) ++ List.replicate (4 - (lg_sl ([.ref a0, .int (nI (gwn n)), .ref mi])).length) Slot.unset).toArray = ls at hl ⊢
  have hl : lv_has ls 4 [(0, .ref a0), (1, .int (nI (gwn n))), (2, .ref mi)] := hl
  have hN : nU s.heap s.heap := nU.rf
  refine lv_aload_n hx hb d_Ars_copyOf2_0 rfl (lv_at hl 2 rfl) ?_
  refine va_ldcM hx hb hown (ht _ q132) hMi d_Ars_copyOf2_1 ?_
  refine lv_acmp_ne (rx := some mi) (ry := some mi) (tgt := 13) hx hb d_Ars_copyOf2_3 (by decide) (fun h9 => absurd rfl h9) (fun _ => ?_)
  refine lv_iload_n hx hb d_Ars_copyOf2_6 rfl (lv_at hl 1 rfl) ?_
  have hSp := hS
  refine z_newq (C := "java/lang/Object") hx hb hown (ht _ q134) hK (List.mem_of_getElem? (i := 0) rfl) 2 rfl hS (gwn n) rfl (by omega) (Nat.le_of_ble_eq_true rfl) (by show 0 + (gwn n) ≤ 3000; omega) d_Ars_copyOf2_7 (fun ad1 H hqad1 hzad1 oad1 hoad1 hS => ?_)
  have hgad1 : s.heap.size ≤ ad1 := by rw [hqad1]; exact hSp.1
  have hAad1 : (fun q => q = a0 ∨ s.heap.size ≤ q) ad1 := (Or.inr hgad1)
  have hgbad1 := Nat.le_trans hN.1 (Nat.le_of_eq hqad1.symm)
  have hN := hN.grew hzad1 hoad1
  refine lv_goto (tgt := 24) hx hb d_Ars_copyOf2_10 (by decide) ?_
  refine lv_astore_n (lv' := [(3, .ref ad1), (0, .ref a0), (1, .int (nI (gwn n))), (2, .ref mi)]) hx hb d_Ars_copyOf2_24 rfl hl (by decide) rfl (fun ls hl => ?_)
  refine lv_aload_n hx hb d_Ars_copyOf2_25 rfl (lv_at hl 1 rfl) ?_
  refine lv_iconst (v := 0) hx hb d_Ars_copyOf2_26 (by decide) ?_
  refine lv_aload_n hx hb d_Ars_copyOf2_27 rfl (lv_at hl 0 rfl) ?_
  refine lv_iconst (v := 0) hx hb d_Ars_copyOf2_28 (by decide) ?_
  refine lv_aload_n hx hb d_Ars_copyOf2_29 rfl (lv_at hl 1 rfl) ?_
  refine z_alen hx hb hK (h0.grew hN.2) rfl d_Ars_copyOf2_30 ?_
  refine lv_iload_n hx hb d_Ars_copyOf2_31 rfl (lv_at hl 2 rfl) ?_
  refine va_mmin hx hb (hml.trans hl.1.symm) hown (ht _ q135) (ht _ q136) (ht _ q7) (ht _ q137) (Nat.le_of_ble_eq_true rfl) (Nat.le_of_ble_eq_true rfl) (Nat.le_of_ble_eq_true rfl) (by show 0 + gwn n ≤ 3000; omega) d_Ars_copyOf2_32 ?_
  rw [show ((if (nI (gwn n)) < (nI n) then (nI (gwn n)) else (nI n)) : Int32) = nI n from if_neg (fun h9 => absurd ((nI_ltI (a := gwn n) (b := n) (by omega) (by omega)).mp h9) (by omega))]
  have h0b := h0.grew hN.2
  have hP : va_P D cls [(a0, .inl (dT 2, n, .inr (.inr (.inr (.inr g))))), (ad1, .inl (dT 2, gwn n, .inr (.inr (.inr (.inr (fun _ => none))))))] H := va_P.app (z_1 h0b) (z_1 oad1)
  have hD : va_D (fun q => q = a0 ∨ s.heap.size ≤ q) [(a0, .inl (dT 2, n, .inr (.inr (.inr (.inr g))))), (ad1, .inl (dT 2, gwn n, .inr (.inr (.inr (.inr (fun _ => none))))))] := va_D.app (w1 := [(a0, _)]) (w2 := [(ad1, _)]) (va_D1 (Or.inl rfl)) (va_D1 hAad1) (va_D2 (Nat.ne_of_lt (Nat.lt_of_lt_of_le h0.lt hgad1)))
  refine va_copyM hx hb (hml.trans hl.1.symm) hown (ht _ q138) (ht _ q140) (ht _ q139) (ht _ q9) hK.1 hP hD hS 0 1 2 2 rfl rfl rfl rfl (by decide) (by decide) (Int32.not_lt.mpr (nI_pos' (by omega))) (by rw [nI_clamp (by omega)]; show 0 + n ≤ n; omega) (by rw [nI_clamp (by omega)]; show 0 + n ≤ gwn n; omega) (fun i hi y hy => by rw [nI_clamp (by omega)] at hi; obtain ⟨fs, h9⟩ := hT i hi y (by have h8 : g (0 + i) = some y := hy; rw [Nat.zero_add] at h8; exact h8); exact z_anyT hK (h9.grew hN.2)) (Nat.le_of_ble_eq_true rfl) (Nat.le_of_ble_eq_true rfl) d_Ars_copyOf2_35 (fun H locs hP hD hS => ?_)
  rw [nI_clamp (show n < 2 ^ 31 by omega)] at hP
  have h0c : va_at D cls (a0, .inl (dT 2, n, .inr (.inr (.inr (.inr g))))) H := hP 0 _ rfl
  have oad1 : va_at D cls (ad1, .inl (dT 2, (gwn n), .inr (.inr (.inr (.inr (va_cpy g (fun _ => none) 0 0 n)))))) H := hP 1 _ rfl
  refine lv_aload_n hx hb d_Ars_copyOf2_38 rfl (lv_at hl 0 rfl) ?_
  exact z_aretQ hx hb hr hlocks d_Ars_copyOf2_39 (Or.inr ⟨_, rfl⟩) (Or.inr ⟨_, rfl⟩) hS (Nat.le_of_ble_eq_true rfl) (by show 0 + gwn n ≤ 3000; omega) ⟨ad1, _, rfl, hgad1, h0c, oad1, fun j hj => if_pos ⟨Nat.zero_le _, by omega⟩ |>.trans (by rw [Nat.zero_add, Nat.sub_zero])⟩
abbrev b_Ars_copyOf1 : ByteArray := prog_21_method_119_code
abbrev y_Ars_copyOf1 : MethodName := ⟨"java/util/Arrays", "copyOf", "([Ljava/lang/Object;I)[Ljava/lang/Object;"⟩
abbrev w_Ars_copyOf1 : List Cond := .code y_Ars_copyOf1 b_Ars_copyOf1 2 (Option.some (.array (.object "java/lang/Object"))) :: gt
theorem hd_Ars_copyOf1 : (y_Ars_copyOf1).cls ≠ "java/lang/invoke/MethodHandle" ∧ (y_Ars_copyOf1).cls ≠ "java/lang/invoke/VarHandle" ∧ (parseMethodDescriptor (y_Ars_copyOf1).desc).map (fun d => d.parameters.length) = some 2 := by decide +kernel
theorem d_Ars_copyOf1_0 : decode b_Ars_copyOf1 0 = .ok (.aload_n 0, 1) := by decide +kernel
theorem d_Ars_copyOf1_1 : decode b_Ars_copyOf1 1 = .ok (.iload_n 1, 1) := by decide +kernel
theorem d_Ars_copyOf1_2 : decode b_Ars_copyOf1 2 = .ok (.aload_n 0, 1) := by decide +kernel
theorem d_Ars_copyOf1_3 : decode b_Ars_copyOf1 3 = .ok (.invokevirtual 86, 3) := by decide +kernel
theorem d_Ars_copyOf1_6 : decode b_Ars_copyOf1 6 = .ok (.invokestatic 300, 3) := by decide +kernel
theorem d_Ars_copyOf1_9 : decode b_Ars_copyOf1 9 = .ok (.areturn, 1) := by decide +kernel
set_option maxHeartbeats 4000000 in
set_option maxRecDepth 100000 in
theorem c_copyOf1 (l : Launch) (D : va_G) (dT : Nat → ClassId) (H : Heap) (a0 n : Nat) (g : Nat → Option Nat) (h0 : va_at D cls (a0, .inl (dT 2, n, .inr (.inr (.inr (.inr g))))) H) (hn : n ≤ 1999) (hT : allT D g n H) : Met l y_Ars_copyOf1 w_Ars_copyOf1 ({ frames := 2, cells := 1, slots := 3000, locals := 44 }) (z_P D dT [.ref a0, .int (nI (gwn n))] H) (z_Q (fun q => q = a0 ∨ H.size ≤ q) (fun v H1 => ∃ q g1, v = some (.ref q) ∧ H.size ≤ q ∧ va_at D cls (a0, .inl (dT 2, n, .inr (.inr (.inr (.inr g))))) H1 ∧ va_at D cls (q, .inl (dT 2, (gwn n), .inr (.inr (.inr (.inr g1))))) H1 ∧ ∀ j, j < n → g1 j = g j)) 1 3000 (fun q => q = a0 ∨ H.size ≤ q) := by
  refine Met.ofW (cc := b_Ars_copyOf1) (maxL := 2) (ret := (Option.some (.array (.object "java/lang/Object")))) (by decide) rfl ?_
  intro p e s m args below meth c s₁ B hml hv
  obtain ⟨rfl, rfl, hK⟩ := hv
  have hx := B.exec
  have hb := B.bytes
  have hr := B.returns
  have hts := atoms_spec (ws := w_Ars_copyOf1) B.pre
  have ht : ∀ w9 ∈ gt, w9.before [.ref a0, .int (nI (gwn n))].toArray s = true := fun w9 h => hts w9 (List.mem_cons_of_mem _ h)
  have hown : s.vm.findClass "java/util/Arrays" = some m.cls := findClass_of_methodNamed B.named
  have hlocks := B.notSynchronized
  have hS : va_S (fun q => q = a0 ∨ s.heap.size ≤ q) s.heap s.heap [] := va_S.rf
  have hl := lv_entry ([.ref a0, .int (nI (gwn n))]) (n := 2) (Nat.le_of_ble_eq_true rfl)
  rw [lg_entry_eq]
  generalize (lg_sl ([.ref a0, .int (nI (gwn n))]) ++ List.replicate (2 - (lg_sl ([.ref a0, .int (nI (gwn n))])).length) Slot.unset).toArray = ls at hl ⊢
  have hl : lv_has ls 2 [(0, .ref a0), (1, .int (nI (gwn n)))] := hl
  obtain ⟨mi, hMi⟩ := hK.2.2.2.2.1
  refine lv_aload_n hx hb d_Ars_copyOf1_0 rfl (lv_at hl 0 rfl) ?_
  refine lv_iload_n hx hb d_Ars_copyOf1_1 rfl (lv_at hl 1 rfl) ?_
  refine lv_aload_n hx hb d_Ars_copyOf1_2 rfl (lv_at hl 0 rfl) ?_
  refine va_getC (C := "[Ljava/lang/Object;") hx hb (hml.trans hl.1.symm) hown (ht _ q114) (va_Dc.use hK.2.2.2.2.2) (ht _ q852) (ht _ q115) (ht _ q128) hMi (z_recvA hK h0) (Nat.le_of_ble_eq_true rfl) (Nat.le_of_ble_eq_true rfl) d_Ars_copyOf1_3 ?_
  refine z_callQ (va_runS (As := [.ref a0, .int (nI (gwn n)), .ref mi]) (rest := []) ⟨hx, hb, hml, hown, hts⟩ (c_copyOf2 l D dT _ a0 n g h0 hn hT mi) ⟨callB_of 3 hts (gI gd_up gd_c q131) rfl rfl rfl (ht _ q8) (ht _ q129) hd_Ars_copyOf2 ⟨Nat.le_of_ble_eq_true rfl, Nat.le_of_ble_eq_true rfl⟩, ht _ q130⟩ (z_preSM hK hMi) rfl rfl hl.1 rfl (lv_room (Nat.le_of_ble_eq_true rfl)) d_Ars_copyOf1_6 ⟨(Nat.le_of_ble_eq_true rfl), (Nat.le_of_ble_eq_true rfl)⟩) hS (fun _ h9 => h9) (fun v2 H locs hv1 hz3 hf4 hS => ?_)
  obtain ⟨q9, g1, rfl, hge, h0c, oq9, hgg⟩ := hv1
  refine W.eq (g2 := F0 m 9 ls [.ref q9]) rfl ?_
  exact z_aretQ hx hb hr hlocks d_Ars_copyOf1_9 (Or.inr ⟨_, rfl⟩) (Or.inr ⟨_, rfl⟩) hS (Nat.le_of_ble_eq_true rfl) (Nat.le_of_ble_eq_true rfl) ⟨q9, g1, rfl, hge, h0c, oq9, hgg⟩
abbrev b_AL_grow2 : ByteArray := prog_20_method_6_code
abbrev y_AL_grow2 : MethodName := ⟨"java/util/ArrayList", "grow", "(I)[Ljava/lang/Object;"⟩
abbrev w_AL_grow2 : List Cond := .code y_AL_grow2 b_AL_grow2 4 (Option.some (.array (.object "java/lang/Object"))) :: gt
theorem hd_AL_grow2 : (y_AL_grow2).cls ≠ "java/lang/invoke/MethodHandle" ∧ (y_AL_grow2).cls ≠ "java/lang/invoke/VarHandle" ∧ (parseMethodDescriptor (y_AL_grow2).desc).map (fun d => d.parameters.length) = some 1 := by decide +kernel
theorem d_AL_grow2_0 : decode b_AL_grow2 0 = .ok (.aload_n 0, 1) := by decide +kernel
theorem d_AL_grow2_1 : decode b_AL_grow2 1 = .ok (.getfield 9, 3) := by decide +kernel
theorem d_AL_grow2_4 : decode b_AL_grow2 4 = .ok (.arraylength, 1) := by decide +kernel
theorem d_AL_grow2_5 : decode b_AL_grow2 5 = .ok (.istore_n 2, 1) := by decide +kernel
theorem d_AL_grow2_6 : decode b_AL_grow2 6 = .ok (.iload_n 2, 1) := by decide +kernel
theorem d_AL_grow2_7 : decode b_AL_grow2 7 = .ok (.ifCond .gt 13, 3) := by decide +kernel
theorem d_AL_grow2_10 : decode b_AL_grow2 10 = .ok (.aload_n 0, 1) := by decide +kernel
theorem d_AL_grow2_11 : decode b_AL_grow2 11 = .ok (.getfield 9, 3) := by decide +kernel
theorem d_AL_grow2_14 : decode b_AL_grow2 14 = .ok (.getstatic 39, 3) := by decide +kernel
theorem d_AL_grow2_17 : decode b_AL_grow2 17 = .ok (.if_acmp .eq 28, 3) := by decide +kernel
theorem d_AL_grow2_20 : decode b_AL_grow2 20 = .ok (.iload_n 2, 1) := by decide +kernel
theorem d_AL_grow2_21 : decode b_AL_grow2 21 = .ok (.iload_n 1, 1) := by decide +kernel
theorem d_AL_grow2_22 : decode b_AL_grow2 22 = .ok (.iload_n 2, 1) := by decide +kernel
theorem d_AL_grow2_23 : decode b_AL_grow2 23 = .ok (.isub, 1) := by decide +kernel
theorem d_AL_grow2_24 : decode b_AL_grow2 24 = .ok (.iload_n 2, 1) := by decide +kernel
theorem d_AL_grow2_25 : decode b_AL_grow2 25 = .ok (.iconst 1, 1) := by decide +kernel
theorem d_AL_grow2_26 : decode b_AL_grow2 26 = .ok (.ishr, 1) := by decide +kernel
theorem d_AL_grow2_27 : decode b_AL_grow2 27 = .ok (.invokestatic 73, 3) := by decide +kernel
theorem d_AL_grow2_30 : decode b_AL_grow2 30 = .ok (.istore_n 3, 1) := by decide +kernel
theorem d_AL_grow2_31 : decode b_AL_grow2 31 = .ok (.aload_n 0, 1) := by decide +kernel
theorem d_AL_grow2_32 : decode b_AL_grow2 32 = .ok (.aload_n 0, 1) := by decide +kernel
theorem d_AL_grow2_33 : decode b_AL_grow2 33 = .ok (.getfield 9, 3) := by decide +kernel
theorem d_AL_grow2_36 : decode b_AL_grow2 36 = .ok (.iload_n 3, 1) := by decide +kernel
theorem d_AL_grow2_37 : decode b_AL_grow2 37 = .ok (.invokestatic 66, 3) := by decide +kernel
theorem d_AL_grow2_40 : decode b_AL_grow2 40 = .ok (.dup_x1, 1) := by decide +kernel
theorem d_AL_grow2_41 : decode b_AL_grow2 41 = .ok (.putfield 9, 3) := by decide +kernel
theorem d_AL_grow2_44 : decode b_AL_grow2 44 = .ok (.areturn, 1) := by decide +kernel
theorem d_AL_grow2_45 : decode b_AL_grow2 45 = .ok (.aload_n 0, 1) := by decide +kernel
theorem d_AL_grow2_46 : decode b_AL_grow2 46 = .ok (.bipush 10, 2) := by decide +kernel
theorem d_AL_grow2_48 : decode b_AL_grow2 48 = .ok (.iload_n 1, 1) := by decide +kernel
theorem d_AL_grow2_49 : decode b_AL_grow2 49 = .ok (.invokestatic 79, 3) := by decide +kernel
theorem d_AL_grow2_52 : decode b_AL_grow2 52 = .ok (.anewarray 7, 3) := by decide +kernel
theorem d_AL_grow2_55 : decode b_AL_grow2 55 = .ok (.dup_x1, 1) := by decide +kernel
theorem d_AL_grow2_56 : decode b_AL_grow2 56 = .ok (.putfield 9, 3) := by decide +kernel
theorem d_AL_grow2_59 : decode b_AL_grow2 59 = .ok (.areturn, 1) := by decide +kernel
set_option maxHeartbeats 4000000 in
set_option maxRecDepth 100000 in
theorem c_grow2_p (l : Launch) (D : va_G) (dT : Nat → ClassId) (H : Heap) (li ed n : Nat) (mcn : Int32) (g : Nat → Option Nat) (hli : va_at D cls (li, .inr (9, [.int mcn, .ref ed, .int (nI n)])) H) (hed : va_at D cls (ed, .inl (dT 2, n, .inr (.inr (.inr (.inr g))))) H) (hn : n ≤ 1999) (hn0 : 0 < n) (hT : allT D g n H) (hle : li ≠ ed) : Met l y_AL_grow2 w_AL_grow2 ({ frames := 3, cells := 1, slots := 3000, locals := 65 }) (z_P D dT [.ref li, .int (nI (n + 1))] H) (z_Q (fun q => q = li ∨ q = ed ∨ H.size ≤ q) (fun v H1 => ∃ q g1, v = some (.ref q) ∧ H.size ≤ q ∧ va_at D cls (li, .inr (9, [.int mcn, .ref q, .int (nI n)])) H1 ∧ va_at D cls (q, .inl (dT 2, (gwn n), .inr (.inr (.inr (.inr g1))))) H1 ∧ ∀ j, j < n → g1 j = g j)) 1 3000 (fun q => q = li ∨ q = ed ∨ H.size ≤ q) := by
  refine Met.ofW (cc := b_AL_grow2) (maxL := 4) (ret := (Option.some (.array (.object "java/lang/Object")))) (by decide) rfl ?_
  intro p e s m args below meth c s₁ B hml hv
  obtain ⟨rfl, rfl, hK⟩ := hv
  have hx := B.exec
  have hb := B.bytes
  have hr := B.returns
  have hts := atoms_spec (ws := w_AL_grow2) B.pre
  have ht : ∀ w9 ∈ gt, w9.before [.ref li, .int (nI (n + 1))].toArray s = true := fun w9 h => hts w9 (List.mem_cons_of_mem _ h)
  have hown : s.vm.findClass "java/util/ArrayList" = some m.cls := findClass_of_methodNamed B.named
  have hlocks := B.notSynchronized
  have hS : va_S (fun q => q = li ∨ q = ed ∨ s.heap.size ≤ q) s.heap s.heap [] := va_S.rf
  have hl := lv_entry ([.ref li, .int (nI (n + 1))]) (n := 4) (Nat.le_of_ble_eq_true rfl)
  rw [lg_entry_eq]
  generalize (lg_sl ([.ref li, .int (nI (n + 1))]) ++ List.replicate (4 - (lg_sl ([.ref li, .int (nI (n + 1))])).length) Slot.unset).toArray = ls at hl ⊢
  have hl : lv_has ls 4 [(0, .ref li), (1, .int (nI (n + 1)))] := hl
  have hli0 := hli
  have hAli : (fun q => q = li ∨ q = ed ∨ s.heap.size ≤ q) li := Or.inl rfl
  refine lv_aload_n hx hb d_AL_grow2_0 rfl (lv_at hl 0 rfl) ?_
  refine va_get (D := D) (ci := 9) (v := .ref ed) (C := "java/util/ArrayList") (T := T_AL) (N := 3) hx hb ht in_AL hown hK.1 (z_1 hli) 0 rfl rfl 1 (by decide) (ht _ q43) (fun _ h9 => h9) rfl d_AL_grow2_1 ?_
  refine z_alen hx hb hK hed rfl d_AL_grow2_4 ?_
  refine lv_istore_n (lv' := [(2, .int (nI n)), (0, .ref li), (1, .int (nI (n + 1)))]) hx hb d_AL_grow2_5 rfl hl (by decide) rfl (fun ls hl => ?_)
  refine lv_iload_n hx hb d_AL_grow2_6 rfl (lv_at hl 0 rfl) ?_
  refine lv_if_gt (tgt := 20) hx hb d_AL_grow2_7 (by decide) (fun c1 => ?_) (fun c1 => absurd ((nI_ltI (a := 0) (b := n) (by decide) (by omega)).mpr hn0) c1)
  refine lv_iload_n hx hb d_AL_grow2_20 rfl (lv_at hl 0 rfl) ?_
  refine lv_iload_n hx hb d_AL_grow2_21 rfl (lv_at hl 2 rfl) ?_
  refine lv_iload_n hx hb d_AL_grow2_22 rfl (lv_at hl 0 rfl) ?_
  refine lv_isub hx hb d_AL_grow2_23 ?_
  rw [show (((nI (n + 1)) - (nI n)) : Int32) = nI 1 from (by rw [pk_sub (a := n + 1) (b := n) (by omega), show n + 1 - n = 1 by omega])]
  refine lv_iload_n hx hb d_AL_grow2_24 rfl (lv_at hl 0 rfl) ?_
  refine lv_iconst (v := 1) hx hb d_AL_grow2_25 (by decide) ?_
  refine lv_ishr hx hb d_AL_grow2_26 ?_
  rw [show (((nI n) >>> (1 &&& 31)) : Int32) = nI (n / 2) from nI_shr (n := n) (r := 1) (by omega) (by decide)]
  refine z_callR (va_runS (As := [.int (nI n), .int (nI 1), .int (nI (n / 2))]) (rest := []) ⟨hx, hb, hml, hown, hts⟩ (c_newLength l D dT _ n hn) ⟨callB_of 3 hts (gI gd_up gd_c q103) rfl rfl rfl (ht _ q6) (ht _ q101) hd_ASup_newLength ⟨Nat.le_of_ble_eq_true rfl, Nat.le_of_ble_eq_true rfl⟩, ht _ q102⟩ (z_preS hK) rfl rfl hl.1 rfl (lv_room (Nat.le_of_ble_eq_true rfl)) d_AL_grow2_27 ⟨Nat.zero_le _, Nat.zero_le _⟩) (fun v3 hv2 => ?_)
  subst hv2
  refine lv_istore_n (lv' := [(3, .int (nI (gwn n))), (2, .int (nI n)), (0, .ref li), (1, .int (nI (n + 1)))]) hx hb d_AL_grow2_30 rfl hl (by decide) rfl (fun ls hl => ?_)
  refine lv_aload_n hx hb d_AL_grow2_31 rfl (lv_at hl 2 rfl) ?_
  refine lv_aload_n hx hb d_AL_grow2_32 rfl (lv_at hl 2 rfl) ?_
  refine va_get (D := D) (ci := 9) (v := .ref ed) (C := "java/util/ArrayList") (T := T_AL) (N := 3) hx hb ht in_AL hown hK.1 (z_1 hli) 0 rfl rfl 1 (by decide) (ht _ q43) (fun _ h9 => h9) rfl d_AL_grow2_33 ?_
  refine lv_iload_n hx hb d_AL_grow2_36 rfl (lv_at hl 0 rfl) ?_
  refine z_callQ (va_runS (As := [.ref ed, .int (nI (gwn n))]) (rest := [.ref li]) ⟨hx, hb, hml, hown, hts⟩ (c_copyOf1 l D dT _ ed n g hed hn hT) ⟨callB_of 2 hts (gI gd_up gd_c q113) rfl rfl rfl (ht _ q8) (ht _ q111) hd_Ars_copyOf1 ⟨Nat.le_of_ble_eq_true rfl, Nat.le_of_ble_eq_true rfl⟩, ht _ q112⟩ (z_preS hK) rfl rfl hl.1 rfl (lv_room (Nat.le_of_ble_eq_true rfl)) d_AL_grow2_37 ⟨(Nat.le_of_ble_eq_true rfl), (Nat.le_of_ble_eq_true rfl)⟩) hS (fun _ h9 => Or.inr h9) (fun v5 H locs hv4 hz6 hf7 hS => ?_)
  obtain ⟨q9, g1, rfl, hge, hed, oq9, hgg⟩ := hv4
  have hli := hli.kept (hf7 _ hli.lt (fun h9 => h9.elim hle (Nat.not_le.mpr hli.lt)))
  have hneq : li ≠ q9 := Nat.ne_of_lt (Nat.lt_of_lt_of_le hli0.lt hge)
  refine W.eq (g2 := F0 m 40 ls [.ref q9, .ref li]) rfl ?_
  refine lv_dup_x1 hx hb d_AL_grow2_40 rfl rfl ?_
  refine z_putf (ci := 9) (C := "java/util/ArrayList") (T := T_AL) (N := 3) hx hb ht in_AL ty_AL tyk_AL nm_AL hown hK hS hAli hli rfl 1 (by decide) (ht _ q43) (fun _ h9 => h9) rfl rfl rfl (Nat.le_of_ble_eq_true rfl) d_AL_grow2_41 (fun H locs hli hz8 ho9 hS => ?_)
  have hli : va_at D cls (li, .inr (9, [.int mcn, .ref q9, .int (nI n)])) H := hli
  have oq9 := oq9.off ho9 (Ne.symm hneq)
  exact z_aretQ hx hb hr hlocks d_AL_grow2_44 (Or.inr ⟨_, rfl⟩) (Or.inr ⟨_, rfl⟩) hS (Nat.le_of_ble_eq_true rfl) (Nat.le_of_ble_eq_true rfl) ⟨q9, g1, rfl, hge, hli, oq9, hgg⟩
abbrev b_AL_grow1 : ByteArray := prog_20_method_7_code
abbrev y_AL_grow1 : MethodName := ⟨"java/util/ArrayList", "grow", "()[Ljava/lang/Object;"⟩
abbrev w_AL_grow1 : List Cond := .code y_AL_grow1 b_AL_grow1 1 (Option.some (.array (.object "java/lang/Object"))) :: gt
theorem hd_AL_grow1 : (y_AL_grow1).cls ≠ "java/lang/invoke/MethodHandle" ∧ (y_AL_grow1).cls ≠ "java/lang/invoke/VarHandle" ∧ (parseMethodDescriptor (y_AL_grow1).desc).map (fun d => d.parameters.length) = some 0 := by decide +kernel
theorem d_AL_grow1_0 : decode b_AL_grow1 0 = .ok (.aload_n 0, 1) := by decide +kernel
theorem d_AL_grow1_1 : decode b_AL_grow1 1 = .ok (.aload_n 0, 1) := by decide +kernel
theorem d_AL_grow1_2 : decode b_AL_grow1 2 = .ok (.getfield 48, 3) := by decide +kernel
theorem d_AL_grow1_5 : decode b_AL_grow1 5 = .ok (.iconst 1, 1) := by decide +kernel
theorem d_AL_grow1_6 : decode b_AL_grow1 6 = .ok (.iadd, 1) := by decide +kernel
theorem d_AL_grow1_7 : decode b_AL_grow1 7 = .ok (.invokevirtual 69, 3) := by decide +kernel
theorem d_AL_grow1_10 : decode b_AL_grow1 10 = .ok (.areturn, 1) := by decide +kernel
set_option maxHeartbeats 4000000 in
set_option maxRecDepth 100000 in
theorem c_grow1_p (l : Launch) (D : va_G) (dT : Nat → ClassId) (H : Heap) (li ed n : Nat) (mcn : Int32) (g : Nat → Option Nat) (hli : va_at D cls (li, .inr (9, [.int mcn, .ref ed, .int (nI n)])) H) (hed : va_at D cls (ed, .inl (dT 2, n, .inr (.inr (.inr (.inr g))))) H) (hn : n ≤ 1999) (hn0 : 0 < n) (hT : allT D g n H) (hle : li ≠ ed) : Met l y_AL_grow1 w_AL_grow1 ({ frames := 4, cells := 1, slots := 3000, locals := 88 }) (z_P D dT [.ref li] H) (z_Q (fun q => q = li ∨ q = ed ∨ H.size ≤ q) (fun v H1 => ∃ q g1, v = some (.ref q) ∧ H.size ≤ q ∧ va_at D cls (li, .inr (9, [.int mcn, .ref q, .int (nI n)])) H1 ∧ va_at D cls (q, .inl (dT 2, (gwn n), .inr (.inr (.inr (.inr g1))))) H1 ∧ ∀ j, j < n → g1 j = g j)) 1 3000 (fun q => q = li ∨ q = ed ∨ H.size ≤ q) := by
  refine Met.ofW (cc := b_AL_grow1) (maxL := 1) (ret := (Option.some (.array (.object "java/lang/Object")))) (by decide) rfl ?_
  intro p e s m args below meth c s₁ B hml hv
  obtain ⟨rfl, rfl, hK⟩ := hv
  have hx := B.exec
  have hb := B.bytes
  have hr := B.returns
  have hts := atoms_spec (ws := w_AL_grow1) B.pre
  have ht : ∀ w9 ∈ gt, w9.before [.ref li].toArray s = true := fun w9 h => hts w9 (List.mem_cons_of_mem _ h)
  have hown : s.vm.findClass "java/util/ArrayList" = some m.cls := findClass_of_methodNamed B.named
  have hlocks := B.notSynchronized
  have hS : va_S (fun q => q = li ∨ q = ed ∨ s.heap.size ≤ q) s.heap s.heap [] := va_S.rf
  have hl := lv_entry ([.ref li]) (n := 1) (Nat.le_of_ble_eq_true rfl)
  rw [lg_entry_eq]
  generalize (lg_sl ([.ref li]) ++ List.replicate (1 - (lg_sl ([.ref li])).length) Slot.unset).toArray = ls at hl ⊢
  have hl : lv_has ls 1 [(0, .ref li)] := hl
  refine lv_aload_n hx hb d_AL_grow1_0 rfl (lv_at hl 0 rfl) ?_
  refine lv_aload_n hx hb d_AL_grow1_1 rfl (lv_at hl 0 rfl) ?_
  refine va_get (D := D) (ci := 9) (v := .int (nI n)) (C := "java/util/ArrayList") (T := T_AL) (N := 3) hx hb ht in_AL hown hK.1 (z_1 hli) 0 rfl rfl 2 (by decide) (ht _ q44) (fun _ h9 => h9) rfl d_AL_grow1_2 ?_
  refine lv_iconst (v := 1) hx hb d_AL_grow1_5 (by decide) ?_
  refine lv_iadd hx hb d_AL_grow1_6 ?_
  rw [show (((nI n) + 1) : Int32) = nI (n + 1) from nI_add n 1]
  refine z_callQ (va_runV (C := "java/util/ArrayList") (As := [.int (nI (n + 1))]) (rest := []) ⟨hx, hb, hml, hown, hts⟩ (c_grow2_p l D dT _ li ed n mcn g hli hed hn hn0 hT hle) ⟨callB_of 1 hts (gI gd_up gd_c q100) rfl rfl rfl (ht _ q4) (ht _ q97) hd_AL_grow2 ⟨Nat.le_of_ble_eq_true rfl, Nat.le_of_ble_eq_true rfl⟩, ht _ q99, ht _ qs2⟩ (z_preV hK (va_recv hK.1 (z_1 hli) (ci := 9) (q0 := 0) rfl rfl)) rfl rfl hl.1 rfl (lv_room (Nat.le_of_ble_eq_true rfl)) d_AL_grow1_7 ⟨(Nat.le_of_ble_eq_true rfl), (Nat.le_of_ble_eq_true rfl)⟩) hS (fun _ h9 => h9) (fun v2 H locs hv1 hz3 hf4 hS => ?_)
  obtain ⟨q9, g1, rfl, hge, hli1, oq9, hgg⟩ := hv1
  refine W.eq (g2 := F0 m 10 ls [.ref q9]) rfl ?_
  exact z_aretQ hx hb hr hlocks d_AL_grow1_10 (Or.inr ⟨_, rfl⟩) (Or.inr ⟨_, rfl⟩) hS (Nat.le_of_ble_eq_true rfl) (Nat.le_of_ble_eq_true rfl) ⟨q9, g1, rfl, hge, hli1, oq9, hgg⟩
abbrev b_AL_add2 : ByteArray := prog_20_method_24_code
abbrev y_AL_add2 : MethodName := ⟨"java/util/ArrayList", "add", "(Ljava/lang/Object;[Ljava/lang/Object;I)V"⟩
abbrev w_AL_add2 : List Cond := .code y_AL_add2 b_AL_add2 4 (Option.none : Option FieldType) :: gt
theorem hd_AL_add2 : (y_AL_add2).cls ≠ "java/lang/invoke/MethodHandle" ∧ (y_AL_add2).cls ≠ "java/lang/invoke/VarHandle" ∧ (parseMethodDescriptor (y_AL_add2).desc).map (fun d => d.parameters.length) = some 3 := by decide +kernel
theorem d_AL_add2_0 : decode b_AL_add2 0 = .ok (.iload_n 3, 1) := by decide +kernel
theorem d_AL_add2_1 : decode b_AL_add2 1 = .ok (.aload_n 2, 1) := by decide +kernel
theorem d_AL_add2_2 : decode b_AL_add2 2 = .ok (.arraylength, 1) := by decide +kernel
theorem d_AL_add2_3 : decode b_AL_add2 3 = .ok (.if_icmp .ne 8, 3) := by decide +kernel
theorem d_AL_add2_6 : decode b_AL_add2 6 = .ok (.aload_n 0, 1) := by decide +kernel
theorem d_AL_add2_7 : decode b_AL_add2 7 = .ok (.invokevirtual 129, 3) := by decide +kernel
theorem d_AL_add2_10 : decode b_AL_add2 10 = .ok (.astore_n 2, 1) := by decide +kernel
theorem d_AL_add2_11 : decode b_AL_add2 11 = .ok (.aload_n 2, 1) := by decide +kernel
theorem d_AL_add2_12 : decode b_AL_add2 12 = .ok (.iload_n 3, 1) := by decide +kernel
theorem d_AL_add2_13 : decode b_AL_add2 13 = .ok (.aload_n 1, 1) := by decide +kernel
theorem d_AL_add2_14 : decode b_AL_add2 14 = .ok (.aastore, 1) := by decide +kernel
theorem d_AL_add2_15 : decode b_AL_add2 15 = .ok (.aload_n 0, 1) := by decide +kernel
theorem d_AL_add2_16 : decode b_AL_add2 16 = .ok (.iload_n 3, 1) := by decide +kernel
theorem d_AL_add2_17 : decode b_AL_add2 17 = .ok (.iconst 1, 1) := by decide +kernel
theorem d_AL_add2_18 : decode b_AL_add2 18 = .ok (.iadd, 1) := by decide +kernel
theorem d_AL_add2_19 : decode b_AL_add2 19 = .ok (.putfield 48, 3) := by decide +kernel
theorem d_AL_add2_22 : decode b_AL_add2 22 = .ok (.return_, 1) := by decide +kernel
set_option maxHeartbeats 4000000 in
set_option maxRecDepth 100000 in
theorem c_add2 (l : Launch) (D : va_G) (dT : Nat → ClassId) (H : Heap) (li ed n : Nat) (mcn : Int32) (g : Nat → Option Nat) (hli : va_at D cls (li, .inr (9, [.int mcn, .ref ed, .int (nI n)])) H) (cap : Nat) (hed : va_at D cls (ed, .inl (dT 2, cap, .inr (.inr (.inr (.inr g))))) H) (hnc : n ≤ cap) (hn : n ≤ 1999) (hcm : cap ≤ 3000) (hn0 : 0 < cap) (hT : allT D g n H) (hle : li ≠ ed) (qt : Nat) (fs9 : List Value) (oqt : va_at D cls (qt, .inr (1, fs9)) H) (hq1 : qt ≠ li) (hq2 : qt ≠ ed) : Met l y_AL_add2 w_AL_add2 ({ frames := 5, cells := 1, slots := 3000, locals := 108 }) (z_P D dT [.ref li, .ref qt, .ref ed, .int (nI n)] H) (z_Q (fun q => q = li ∨ q = ed ∨ H.size ≤ q) (fun v H1 => v = none ∧ ∃ ed' mc' cap' g', (ed' = ed ∨ H.size ≤ ed') ∧ va_at D cls (li, .inr (9, [.int mc', .ref ed', .int (nI (n + 1))])) H1 ∧ va_at D cls (ed', .inl (dT 2, cap', .inr (.inr (.inr (.inr g'))))) H1 ∧ n + 1 ≤ cap' ∧ cap' ≤ 3000 ∧ (∀ j, j < n → g' j = g j) ∧ g' n = some qt)) 1 3000 (fun q => q = li ∨ q = ed ∨ H.size ≤ q) := by
  refine Met.ofW (cc := b_AL_add2) (maxL := 4) (ret := (Option.none : Option FieldType)) (by decide) rfl ?_
  intro p e s m args below meth c s₁ B hml hv
  obtain ⟨rfl, rfl, hK⟩ := hv
  have hx := B.exec
  have hb := B.bytes
  have hr := B.returns
  have hts := atoms_spec (ws := w_AL_add2) B.pre
  have ht : ∀ w9 ∈ gt, w9.before [.ref li, .ref qt, .ref ed, .int (nI n)].toArray s = true := fun w9 h => hts w9 (List.mem_cons_of_mem _ h)
  have hown : s.vm.findClass "java/util/ArrayList" = some m.cls := findClass_of_methodNamed B.named
  have hlocks := B.notSynchronized
  have hS : va_S (fun q => q = li ∨ q = ed ∨ s.heap.size ≤ q) s.heap s.heap [] := va_S.rf
  have hl := lv_entry ([.ref li, .ref qt, .ref ed, .int (nI n)]) (n := 4) (Nat.le_of_ble_eq_true rfl)
  rw [lg_entry_eq]
  generalize (lg_sl ([.ref li, .ref qt, .ref ed, .int (nI n)]) ++ List.replicate (4 - (lg_sl ([.ref li, .ref qt, .ref ed, .int (nI n)])).length) Slot.unset).toArray = ls at hl ⊢
  have hl : lv_has ls 4 [(0, .ref li), (1, .ref qt), (2, .ref ed), (3, .int (nI n))] := hl
  have hli0 := hli
  have oqt0 := oqt
  have hAli : (fun q => q = li ∨ q = ed ∨ s.heap.size ≤ q) li := Or.inl rfl
  have hAed : (fun q => q = li ∨ q = ed ∨ s.heap.size ≤ q) ed := Or.inr (Or.inl rfl)
  refine lv_iload_n hx hb d_AL_add2_0 rfl (lv_at hl 3 rfl) ?_
  refine lv_aload_n hx hb d_AL_add2_1 rfl (lv_at hl 2 rfl) ?_
  refine z_alen hx hb hK hed rfl d_AL_add2_2 ?_
  refine lv_icmp_ne (tgt := 11) hx hb d_AL_add2_3 (by decide) (fun c1 => ?_) (fun c1 => ?_)
  · have nc1 : ¬ n = cap := fun h9 => c1 ((nI_eq (a := n) (b := cap) (by omega) (by omega)).mpr h9)
    refine lv_aload_n hx hb d_AL_add2_11 rfl (lv_at hl 2 rfl) ?_
    refine lv_iload_n hx hb d_AL_add2_12 rfl (lv_at hl 3 rfl) ?_
    refine lv_aload_n hx hb d_AL_add2_13 rfl (lv_at hl 1 rfl) ?_
    refine z_aas hx hb hK hS hAed hed rfl (z_anyT hK oqt) n rfl (by omega) (by omega) d_AL_add2_14 (fun H locs hed hz2 ho3 hS => ?_)
    have hli := hli.off ho3 hle
    have oqt := oqt.off ho3 hq2
    refine lv_aload_n hx hb d_AL_add2_15 rfl (lv_at hl 0 rfl) ?_
    refine lv_iload_n hx hb d_AL_add2_16 rfl (lv_at hl 3 rfl) ?_
    refine lv_iconst (v := 1) hx hb d_AL_add2_17 (by decide) ?_
    refine lv_iadd hx hb d_AL_add2_18 ?_
    rw [show (((nI n) + 1) : Int32) = nI (n + 1) from nI_add n 1]
    refine z_putf (ci := 9) (C := "java/util/ArrayList") (T := T_AL) (N := 3) hx hb ht in_AL ty_AL tyk_AL nm_AL hown hK hS hAli hli rfl 2 (by decide) (ht _ q44) (fun _ h9 => h9) rfl rfl rfl (Nat.le_of_ble_eq_true rfl) d_AL_add2_19 (fun H locs hli hz4 ho5 hS => ?_)
    have hli : va_at D cls (li, .inr (9, [.int mcn, .ref ed, .int (nI (n + 1))])) H := hli
    have hed := hed.off ho5 (Ne.symm hle)
    have oqt := oqt.off ho5 hq1
    exact z_vretQ hx hb hr hlocks d_AL_add2_22 hS (Nat.le_of_ble_eq_true rfl) (Nat.le_of_ble_eq_true rfl) ⟨rfl, ed, mcn, cap, va_up g n (some qt), Or.inl rfl, hli, hed, by omega, by omega, fun j hj => by rw [va_upN (by omega)], va_upS⟩
  · have nc1 : n = cap := (nI_eq (a := n) (b := cap) (by omega) (by omega)).mp c1
    have hcn : n = cap := nc1
    subst hcn
    refine lv_aload_n hx hb d_AL_add2_6 rfl (lv_at hl 0 rfl) ?_
    refine z_callQ (va_runV (C := "java/util/ArrayList") (As := []) (rest := []) ⟨hx, hb, hml, hown, hts⟩ (c_grow1_p l D dT _ li ed n mcn g hli hed hn hn0 hT hle) ⟨callB_of 0 hts (gI gd_up gd_c q96) rfl rfl rfl (ht _ q4) (ht _ q93) hd_AL_grow1 ⟨Nat.le_of_ble_eq_true rfl, Nat.le_of_ble_eq_true rfl⟩, ht _ q95, ht _ qs1⟩ (z_preV hK (va_recv hK.1 (z_1 hli) (ci := 9) (q0 := 0) rfl rfl)) rfl rfl hl.1 rfl (lv_room (Nat.le_of_ble_eq_true rfl)) d_AL_add2_7 ⟨(Nat.le_of_ble_eq_true rfl), (Nat.le_of_ble_eq_true rfl)⟩) hS (fun _ h9 => h9) (fun v7 H locs hv6 hz8 hf9 hS => ?_)
    obtain ⟨q9, g1, rfl, hge, hli1, oq9, hgg⟩ := hv6
    refine W.eq (g2 := F0 m 10 ls [.ref q9]) rfl ?_
    have oqt := oqt.kept (hf9 _ oqt.lt (fun h9 => h9.elim hq1 (fun h8 => h8.elim hq2 (Nat.not_le.mpr oqt.lt))))
    have hneq : li ≠ q9 := Nat.ne_of_lt (Nat.lt_of_lt_of_le hli0.lt hge)
    have hneq2 : qt ≠ q9 := Nat.ne_of_lt (Nat.lt_of_lt_of_le oqt0.lt hge)
    have hAq9 : (fun q => q = li ∨ q = ed ∨ s.heap.size ≤ q) q9 := Or.inr (Or.inr hge)
    have hgw := gwn_le hn
    refine lv_astore_n (lv' := [(2, .ref q9), (0, .ref li), (1, .ref qt), (3, .int (nI n))]) hx hb d_AL_add2_10 rfl hl (by decide) rfl (fun ls hl => ?_)
    refine lv_aload_n hx hb d_AL_add2_11 rfl (lv_at hl 0 rfl) ?_
    refine lv_iload_n hx hb d_AL_add2_12 rfl (lv_at hl 3 rfl) ?_
    refine lv_aload_n hx hb d_AL_add2_13 rfl (lv_at hl 2 rfl) ?_
    refine z_aas hx hb hK hS hAq9 oq9 rfl (z_anyT hK oqt) n rfl (by omega) (by omega) d_AL_add2_14 (fun H locs oq9 hz10 ho11 hS => ?_)
    have hli1 := hli1.off ho11 hneq
    have oqt := oqt.off ho11 hneq2
    refine lv_aload_n hx hb d_AL_add2_15 rfl (lv_at hl 1 rfl) ?_
    refine lv_iload_n hx hb d_AL_add2_16 rfl (lv_at hl 3 rfl) ?_
    refine lv_iconst (v := 1) hx hb d_AL_add2_17 (by decide) ?_
    refine lv_iadd hx hb d_AL_add2_18 ?_
    rw [show (((nI n) + 1) : Int32) = nI (n + 1) from nI_add n 1]
    refine z_putf (ci := 9) (C := "java/util/ArrayList") (T := T_AL) (N := 3) hx hb ht in_AL ty_AL tyk_AL nm_AL hown hK hS hAli hli1 rfl 2 (by decide) (ht _ q44) (fun _ h9 => h9) rfl rfl rfl (Nat.le_of_ble_eq_true rfl) d_AL_add2_19 (fun H locs hli1 hz12 ho13 hS => ?_)
    have hli1 : va_at D cls (li, .inr (9, [.int mcn, .ref q9, .int (nI (n + 1))])) H := hli1
    have oq9 := oq9.off ho13 (Ne.symm hneq)
    have oqt := oqt.off ho13 hq1
    exact z_vretQ hx hb hr hlocks d_AL_add2_22 hS (Nat.le_of_ble_eq_true rfl) (Nat.le_of_ble_eq_true rfl) ⟨rfl, q9, mcn, gwn n, va_up g1 n (some qt), Or.inr hge, hli1, oq9, by omega, by omega, fun j hj => by rw [va_upN (by omega)]; exact hgg j hj, va_upS⟩
abbrev b_AL_add1 : ByteArray := prog_20_method_25_code
abbrev y_AL_add1 : MethodName := ⟨"java/util/ArrayList", "add", "(Ljava/lang/Object;)Z"⟩
abbrev w_AL_add1 : List Cond := .code y_AL_add1 b_AL_add1 2 (Option.some .boolean) :: gt
theorem hd_AL_add1 : (y_AL_add1).cls ≠ "java/lang/invoke/MethodHandle" ∧ (y_AL_add1).cls ≠ "java/lang/invoke/VarHandle" ∧ (parseMethodDescriptor (y_AL_add1).desc).map (fun d => d.parameters.length) = some 1 := by decide +kernel
theorem d_AL_add1_0 : decode b_AL_add1 0 = .ok (.aload_n 0, 1) := by decide +kernel
theorem d_AL_add1_1 : decode b_AL_add1 1 = .ok (.dup, 1) := by decide +kernel
theorem d_AL_add1_2 : decode b_AL_add1 2 = .ok (.getfield 63, 3) := by decide +kernel
theorem d_AL_add1_5 : decode b_AL_add1 5 = .ok (.iconst 1, 1) := by decide +kernel
theorem d_AL_add1_6 : decode b_AL_add1 6 = .ok (.iadd, 1) := by decide +kernel
theorem d_AL_add1_7 : decode b_AL_add1 7 = .ok (.putfield 63, 3) := by decide +kernel
theorem d_AL_add1_10 : decode b_AL_add1 10 = .ok (.aload_n 0, 1) := by decide +kernel
theorem d_AL_add1_11 : decode b_AL_add1 11 = .ok (.aload_n 1, 1) := by decide +kernel
theorem d_AL_add1_12 : decode b_AL_add1 12 = .ok (.aload_n 0, 1) := by decide +kernel
theorem d_AL_add1_13 : decode b_AL_add1 13 = .ok (.getfield 9, 3) := by decide +kernel
theorem d_AL_add1_16 : decode b_AL_add1 16 = .ok (.aload_n 0, 1) := by decide +kernel
theorem d_AL_add1_17 : decode b_AL_add1 17 = .ok (.getfield 48, 3) := by decide +kernel
theorem d_AL_add1_20 : decode b_AL_add1 20 = .ok (.invokevirtual 131, 3) := by decide +kernel
theorem d_AL_add1_23 : decode b_AL_add1 23 = .ok (.iconst 1, 1) := by decide +kernel
theorem d_AL_add1_24 : decode b_AL_add1 24 = .ok (.ireturn, 1) := by decide +kernel
set_option maxHeartbeats 4000000 in
set_option maxRecDepth 100000 in
theorem c_add1 (l : Launch) (D : va_G) (dT : Nat → ClassId) (H : Heap) (li ed n : Nat) (mcn : Int32) (g : Nat → Option Nat) (hli : va_at D cls (li, .inr (9, [.int mcn, .ref ed, .int (nI n)])) H) (cap : Nat) (hed : va_at D cls (ed, .inl (dT 2, cap, .inr (.inr (.inr (.inr g))))) H) (hnc : n ≤ cap) (hn : n ≤ 1999) (hcm : cap ≤ 3000) (hn0 : 0 < cap) (hT : allT D g n H) (hle : li ≠ ed) (qt : Nat) (fs9 : List Value) (oqt : va_at D cls (qt, .inr (1, fs9)) H) (hq1 : qt ≠ li) (hq2 : qt ≠ ed) (hTl : ∀ i, i < n → ∀ y, g i = some y → y ≠ li) : Met l y_AL_add1 w_AL_add1 ({ frames := 6, cells := 1, slots := 3000, locals := 131 }) (z_P D dT [.ref li, .ref qt] H) (z_Q (fun q => q = li ∨ q = ed ∨ H.size ≤ q) (fun v H1 => v = some (.int 1) ∧ ∃ ed' mc' cap' g', (ed' = ed ∨ H.size ≤ ed') ∧ va_at D cls (li, .inr (9, [.int mc', .ref ed', .int (nI (n + 1))])) H1 ∧ va_at D cls (ed', .inl (dT 2, cap', .inr (.inr (.inr (.inr g'))))) H1 ∧ n + 1 ≤ cap' ∧ cap' ≤ 3000 ∧ (∀ j, j < n → g' j = g j) ∧ g' n = some qt)) 1 3000 (fun q => q = li ∨ q = ed ∨ H.size ≤ q) := by
  refine Met.ofW (cc := b_AL_add1) (maxL := 2) (ret := (Option.some .boolean)) (by decide) rfl ?_
  intro p e s m args below meth c s₁ B hml hv
  obtain ⟨rfl, rfl, hK⟩ := hv
  have hx := B.exec
  have hb := B.bytes
  have hr := B.returns
  have hts := atoms_spec (ws := w_AL_add1) B.pre
  have ht : ∀ w9 ∈ gt, w9.before [.ref li, .ref qt].toArray s = true := fun w9 h => hts w9 (List.mem_cons_of_mem _ h)
  have hown : s.vm.findClass "java/util/ArrayList" = some m.cls := findClass_of_methodNamed B.named
  have hlocks := B.notSynchronized
  have hS : va_S (fun q => q = li ∨ q = ed ∨ s.heap.size ≤ q) s.heap s.heap [] := va_S.rf
  have hl := lv_entry ([.ref li, .ref qt]) (n := 2) (Nat.le_of_ble_eq_true rfl)
  rw [lg_entry_eq]
  generalize (lg_sl ([.ref li, .ref qt]) ++ List.replicate (2 - (lg_sl ([.ref li, .ref qt])).length) Slot.unset).toArray = ls at hl ⊢
  have hl : lv_has ls 2 [(0, .ref li), (1, .ref qt)] := hl
  have hAli : (fun q => q = li ∨ q = ed ∨ s.heap.size ≤ q) li := Or.inl rfl
  refine lv_aload_n hx hb d_AL_add1_0 rfl (lv_at hl 0 rfl) ?_
  refine lv_dup hx hb d_AL_add1_1 rfl ?_
  refine va_get (D := D) (ci := 9) (v := .int mcn) (C := "java/util/ArrayList") (T := T_AL) (N := 3) hx hb ht in_AL hown hK.1 (z_1 hli) 0 rfl rfl 0 (by decide) (ht _ q46) (u_same (ht _ q47)) rfl d_AL_add1_2 ?_
  refine lv_iconst (v := 1) hx hb d_AL_add1_5 (by decide) ?_
  refine lv_iadd hx hb d_AL_add1_6 ?_
  refine z_putf (ci := 9) (C := "java/util/ArrayList") (T := T_AL) (N := 3) hx hb ht in_AL ty_AL tyk_AL nm_AL hown hK hS hAli hli rfl 0 (by decide) (ht _ q46) (u_same (ht _ q47)) rfl rfl rfl (Nat.le_of_ble_eq_true rfl) d_AL_add1_7 (fun H locs hli hz1 ho2 hS => ?_)
  have hli : va_at D cls (li, .inr (9, [.int (mcn + 1), .ref ed, .int (nI n)])) H := hli
  have hed := hed.off ho2 (Ne.symm hle)
  have oqt := oqt.off ho2 hq1
  refine lv_aload_n hx hb d_AL_add1_10 rfl (lv_at hl 0 rfl) ?_
  refine lv_aload_n hx hb d_AL_add1_11 rfl (lv_at hl 1 rfl) ?_
  refine lv_aload_n hx hb d_AL_add1_12 rfl (lv_at hl 0 rfl) ?_
  refine va_get (D := D) (ci := 9) (v := .ref ed) (C := "java/util/ArrayList") (T := T_AL) (N := 3) hx hb ht in_AL hown hK.1 (z_1 hli) 0 rfl rfl 1 (by decide) (ht _ q43) (fun _ h9 => h9) rfl d_AL_add1_13 ?_
  refine lv_aload_n hx hb d_AL_add1_16 rfl (lv_at hl 0 rfl) ?_
  refine va_get (D := D) (ci := 9) (v := .int (nI n)) (C := "java/util/ArrayList") (T := T_AL) (N := 3) hx hb ht in_AL hown hK.1 (z_1 hli) 0 rfl rfl 2 (by decide) (ht _ q44) (fun _ h9 => h9) rfl d_AL_add1_17 ?_
  refine z_callQ (va_runV (C := "java/util/ArrayList") (As := [.ref qt, .ref ed, .int (nI n)]) (rest := []) ⟨hx, hb, hml, hown, hts⟩ (c_add2 l D dT _ li ed n (mcn + 1) g hli cap hed hnc hn hcm hn0 (hT.off ho2 hTl) hle qt fs9 oqt hq1 hq2) ⟨callB_of 3 hts (gI gd_up gd_c q92) rfl rfl rfl (ht _ q4) (ht _ q89) hd_AL_add2 ⟨Nat.le_of_ble_eq_true rfl, Nat.le_of_ble_eq_true rfl⟩, ht _ q91, ht _ qs0⟩ (z_preV hK (va_recv hK.1 (z_1 hli) (ci := 9) (q0 := 0) rfl rfl)) rfl rfl hl.1 rfl (lv_room (Nat.le_of_ble_eq_true rfl)) d_AL_add1_20 ⟨(Nat.le_of_ble_eq_true rfl), (Nat.le_of_ble_eq_true rfl)⟩) hS (fun _ h9 => h9.imp (fun h => h) (fun h8 => h8.imp (fun h => h) (fun h7 => Nat.le_trans (Nat.le_of_eq hz1.symm) h7))) (fun v4 H locs hv3 hz5 hf6 hS => ?_)
  obtain ⟨rfl, ed', mc', cap', g', he', hli', hed', hc1, hc2, hg1, hg2⟩ := hv3
  refine W.eq (g2 := F0 m 23 ls []) rfl ?_
  refine lv_iconst (v := 1) hx hb d_AL_add1_23 (by decide) ?_
  exact z_zretQ hx hb hr hlocks d_AL_add1_24 rfl hS (Nat.le_of_ble_eq_true rfl) (Nat.le_of_ble_eq_true rfl) ⟨rfl, ed', mc', cap', g', he'.imp (fun h => h) (fun h7 => Nat.le_trans (Nat.le_of_eq hz1.symm) h7), hli', hed', hc1, hc2, hg1, hg2⟩
