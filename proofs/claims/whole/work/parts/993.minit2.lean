abbrev b_M_init : ByteArray := prog_12_method_1_code
abbrev y_M_init : MethodName := ⟨"ValueTreesModel", "<init>", "()V"⟩
abbrev w_M_init : List Cond := .code y_M_init b_M_init 2 (Option.none : Option FieldType) :: gt
theorem hd_M_init : (y_M_init).cls ≠ "java/lang/invoke/MethodHandle" ∧ (y_M_init).cls ≠ "java/lang/invoke/VarHandle" ∧ (parseMethodDescriptor (y_M_init).desc).map (fun d => d.parameters.length) = some 0 := by decide +kernel
theorem d_M_init_0 : decode b_M_init 0 = .ok (.aload_n 0, 1) := by decide +kernel
theorem d_M_init_1 : decode b_M_init 1 = .ok (.invokespecial 1, 3) := by decide +kernel
theorem d_M_init_4 : decode b_M_init 4 = .ok (.aload_n 0, 1) := by decide +kernel
theorem d_M_init_5 : decode b_M_init 5 = .ok (.sipush 2000, 3) := by decide +kernel
theorem d_M_init_8 : decode b_M_init 8 = .ok (.newarray .int, 2) := by decide +kernel
theorem d_M_init_10 : decode b_M_init 10 = .ok (.putfield 7, 3) := by decide +kernel
theorem d_M_init_13 : decode b_M_init 13 = .ok (.aload_n 0, 1) := by decide +kernel
theorem d_M_init_14 : decode b_M_init 14 = .ok (.sipush 2000, 3) := by decide +kernel
theorem d_M_init_17 : decode b_M_init 17 = .ok (.newarray .int, 2) := by decide +kernel
theorem d_M_init_19 : decode b_M_init 19 = .ok (.putfield 13, 3) := by decide +kernel
theorem d_M_init_22 : decode b_M_init 22 = .ok (.aload_n 0, 1) := by decide +kernel
theorem d_M_init_23 : decode b_M_init 23 = .ok (.sipush 2000, 3) := by decide +kernel
theorem d_M_init_26 : decode b_M_init 26 = .ok (.newarray .int, 2) := by decide +kernel
theorem d_M_init_28 : decode b_M_init 28 = .ok (.putfield 16, 3) := by decide +kernel
theorem d_M_init_31 : decode b_M_init 31 = .ok (.aload_n 0, 1) := by decide +kernel
theorem d_M_init_32 : decode b_M_init 32 = .ok (.bipush 16, 2) := by decide +kernel
theorem d_M_init_34 : decode b_M_init 34 = .ok (.newarray .int, 2) := by decide +kernel
theorem d_M_init_36 : decode b_M_init 36 = .ok (.putfield 19, 3) := by decide +kernel
theorem d_M_init_39 : decode b_M_init 39 = .ok (.aload_n 0, 1) := by decide +kernel
theorem d_M_init_40 : decode b_M_init 40 = .ok (.sipush 2560, 3) := by decide +kernel
theorem d_M_init_43 : decode b_M_init 43 = .ok (.newarray .byte, 2) := by decide +kernel
theorem d_M_init_45 : decode b_M_init 45 = .ok (.putfield 22, 3) := by decide +kernel
theorem d_M_init_48 : decode b_M_init 48 = .ok (.aload_n 0, 1) := by decide +kernel
theorem d_M_init_49 : decode b_M_init 49 = .ok (.bipush 16, 2) := by decide +kernel
theorem d_M_init_51 : decode b_M_init 51 = .ok (.newarray .int, 2) := by decide +kernel
theorem d_M_init_53 : decode b_M_init 53 = .ok (.putfield 26, 3) := by decide +kernel
theorem d_M_init_56 : decode b_M_init 56 = .ok (.aload_n 0, 1) := by decide +kernel
theorem d_M_init_57 : decode b_M_init 57 = .ok (.sipush 400, 3) := by decide +kernel
theorem d_M_init_60 : decode b_M_init 60 = .ok (.newarray .byte, 2) := by decide +kernel
theorem d_M_init_62 : decode b_M_init 62 = .ok (.putfield 29, 3) := by decide +kernel
theorem d_M_init_65 : decode b_M_init 65 = .ok (.aload_n 0, 1) := by decide +kernel
theorem d_M_init_66 : decode b_M_init 66 = .ok (.sipush 140, 3) := by decide +kernel
theorem d_M_init_69 : decode b_M_init 69 = .ok (.newarray .int, 2) := by decide +kernel
theorem d_M_init_71 : decode b_M_init 71 = .ok (.putfield 32, 3) := by decide +kernel
theorem d_M_init_74 : decode b_M_init 74 = .ok (.aload_n 0, 1) := by decide +kernel
theorem d_M_init_75 : decode b_M_init 75 = .ok (.sipush 140, 3) := by decide +kernel
theorem d_M_init_78 : decode b_M_init 78 = .ok (.newarray .int, 2) := by decide +kernel
theorem d_M_init_80 : decode b_M_init 80 = .ok (.putfield 35, 3) := by decide +kernel
theorem d_M_init_83 : decode b_M_init 83 = .ok (.iconst 0, 1) := by decide +kernel
theorem d_M_init_84 : decode b_M_init 84 = .ok (.istore_n 1, 1) := by decide +kernel
theorem d_M_init_85 : decode b_M_init 85 = .ok (.iload_n 1, 1) := by decide +kernel
theorem d_M_init_86 : decode b_M_init 86 = .ok (.bipush 9, 2) := by decide +kernel
theorem d_M_init_88 : decode b_M_init 88 = .ok (.if_icmp .gt 30, 3) := by decide +kernel
theorem d_M_init_91 : decode b_M_init 91 = .ok (.aload_n 0, 1) := by decide +kernel
theorem d_M_init_92 : decode b_M_init 92 = .ok (.getfield 7, 3) := by decide +kernel
theorem d_M_init_95 : decode b_M_init 95 = .ok (.iload_n 1, 1) := by decide +kernel
theorem d_M_init_96 : decode b_M_init 96 = .ok (.iload_n 1, 1) := by decide +kernel
theorem d_M_init_97 : decode b_M_init 97 = .ok (.iastore, 1) := by decide +kernel
theorem d_M_init_98 : decode b_M_init 98 = .ok (.aload_n 0, 1) := by decide +kernel
theorem d_M_init_99 : decode b_M_init 99 = .ok (.getfield 13, 3) := by decide +kernel
theorem d_M_init_102 : decode b_M_init 102 = .ok (.iload_n 1, 1) := by decide +kernel
theorem d_M_init_103 : decode b_M_init 103 = .ok (.iconst (-1), 1) := by decide +kernel
theorem d_M_init_104 : decode b_M_init 104 = .ok (.iastore, 1) := by decide +kernel
theorem d_M_init_105 : decode b_M_init 105 = .ok (.aload_n 0, 1) := by decide +kernel
theorem d_M_init_106 : decode b_M_init 106 = .ok (.getfield 16, 3) := by decide +kernel
theorem d_M_init_109 : decode b_M_init 109 = .ok (.iload_n 1, 1) := by decide +kernel
theorem d_M_init_110 : decode b_M_init 110 = .ok (.iconst (-1), 1) := by decide +kernel
theorem d_M_init_111 : decode b_M_init 111 = .ok (.iastore, 1) := by decide +kernel
theorem d_M_init_112 : decode b_M_init 112 = .ok (.iinc 1 1, 3) := by decide +kernel
theorem d_M_init_115 : decode b_M_init 115 = .ok (.goto (-30), 3) := by decide +kernel
theorem d_M_init_118 : decode b_M_init 118 = .ok (.aload_n 0, 1) := by decide +kernel
theorem d_M_init_119 : decode b_M_init 119 = .ok (.bipush 10, 2) := by decide +kernel
theorem d_M_init_121 : decode b_M_init 121 = .ok (.putfield 38, 3) := by decide +kernel
theorem d_M_init_124 : decode b_M_init 124 = .ok (.iconst 0, 1) := by decide +kernel
theorem d_M_init_125 : decode b_M_init 125 = .ok (.istore_n 1, 1) := by decide +kernel
theorem d_M_init_126 : decode b_M_init 126 = .ok (.iload_n 1, 1) := by decide +kernel
theorem d_M_init_127 : decode b_M_init 127 = .ok (.bipush 16, 2) := by decide +kernel
theorem d_M_init_129 : decode b_M_init 129 = .ok (.if_icmp .ge 16, 3) := by decide +kernel
theorem d_M_init_132 : decode b_M_init 132 = .ok (.aload_n 0, 1) := by decide +kernel
theorem d_M_init_133 : decode b_M_init 133 = .ok (.getfield 19, 3) := by decide +kernel
theorem d_M_init_136 : decode b_M_init 136 = .ok (.iload_n 1, 1) := by decide +kernel
theorem d_M_init_137 : decode b_M_init 137 = .ok (.iconst (-1), 1) := by decide +kernel
theorem d_M_init_138 : decode b_M_init 138 = .ok (.iastore, 1) := by decide +kernel
theorem d_M_init_139 : decode b_M_init 139 = .ok (.iinc 1 1, 3) := by decide +kernel
theorem d_M_init_142 : decode b_M_init 142 = .ok (.goto (-16), 3) := by decide +kernel
theorem d_M_init_145 : decode b_M_init 145 = .ok (.return_, 1) := by decide +kernel
set_option maxHeartbeats 4000000 in
set_option maxRecDepth 100000 in
theorem c_M_init (l : Launch) (D : va_G) (dT : Nat → ClassId) (H : Heap) (a : Nat) (oa : va_at D cls (a, .inr (10, [.null, .null, .null, .int 0, .null, .null, .null, .null, .int 0, .null, .int 0, .null])) H) : Met l y_M_init w_M_init ({ frames := 1, cells := 9, slots := 9272, locals := 20 }) (z_P D dT [.ref a] H) (z_Q (fun q => q = a ∨ H.size ≤ q) (fun v H1 => v = none ∧ ∃ mm : Nat → Nat, mm 0 = a ∧ mI D dT mm tb0 10 (fun _ => none) H1 ∧ ∀ k, 0 < k → k < 10 → H.size ≤ mm k)) 9 9272 (fun q => q = a ∨ H.size ≤ q) := by
  refine Met.ofW (cc := b_M_init) (maxL := 2) (ret := (Option.none : Option FieldType)) (by decide) rfl ?_
  intro p e s m args below meth c s₁ B hml hv
  obtain ⟨rfl, rfl, hK⟩ := hv
  have hx := B.exec
  have hb := B.bytes
  have hr := B.returns
  have hts := atoms_spec (ws := w_M_init) B.pre
  have ht : ∀ w9 ∈ gt, w9.before [.ref a].toArray s = true := fun w9 h => hts w9 (List.mem_cons_of_mem _ h)
  have hown : s.vm.findClass "ValueTreesModel" = some m.cls := findClass_of_methodNamed B.named
  have hlocks := B.notSynchronized
  have hin : meth.name = "<init>" := (name_of_methodNamed B.named B.method).1
  have hS : va_S (fun q => q = a ∨ s.heap.size ≤ q) s.heap s.heap [] := va_S.rf
  have hl := lv_entry ([.ref a]) (n := 2) (Nat.le_of_ble_eq_true rfl)
  rw [lg_entry_eq]
  generalize (lg_sl ([.ref a]) ++ List.replicate (2 - (lg_sl ([.ref a])).length) Slot.unset).toArray = ls at hl ⊢
  have hl : lv_has ls 2 [(0, .ref a)] := hl
  have hAa : (fun q => q = a ∨ s.heap.size ≤ q) a := Or.inl rfl
  refine lv_aload_n hx hb d_M_init_0 rfl (lv_at hl 0 rfl) ?_
  refine W.objInit hx hb hown (ht _ q538) (ht _ q27) (ht _ q28) rfl (hl.1.trans hml.symm) rfl d_M_init_1 (Nat.le_of_ble_eq_true rfl) (Nat.le_of_ble_eq_true rfl) ?_
  refine W.eq (g2 := F0 m 4 ls []) rfl ?_
  refine lv_aload_n hx hb d_M_init_4 rfl (lv_at hl 0 rfl) ?_
  refine lv_sipush (v := 2000) hx hb d_M_init_5 (by decide) ?_
  have lt9 := oa.lt
  have hSp := hS
  refine z_newi hx hb (ht _ q260) hK hS 2000 rfl (by decide) (Nat.le_of_ble_eq_true rfl) (Nat.le_of_ble_eq_true rfl) d_M_init_8 (fun ad1 H hqad1 hzad1 oad1 hoad1 hS => ?_)
  have neaad1 : a ≠ ad1 := by rw [hqad1]; exact Nat.ne_of_lt oa.lt
  have oa := oa.grew hoad1
  have hgad1 : s.heap.size ≤ ad1 := by rw [hqad1]; exact hSp.1
  have hAad1 : (fun q => q = a ∨ s.heap.size ≤ q) ad1 := (Or.inr hgad1)
  have lt0 : a < ad1 := by rw [hqad1]; exact lt9
  refine z_putF (ci := 10) (C := "ValueTreesModel") (T := T_M) (N := 12) hx hb ht in_M ty_M tyk_M nm_M hown hK hS hAa oa rfl 0 (by decide) (ht _ q539) (fun _ h9 => h9) rfl hin rfl rfl rfl (Nat.le_of_ble_eq_true rfl) d_M_init_10 (fun H locs oa hz2 ho3 hS => ?_)
  have oa : va_at D cls (a, .inr (10, [.ref ad1, .null, .null, .int 0, .null, .null, .null, .null, .int 0, .null, .int 0, .null])) H := oa
  have oad1 := oad1.off ho3 (Ne.symm neaad1)
  refine lv_aload_n hx hb d_M_init_13 rfl (lv_at hl 0 rfl) ?_
  refine lv_sipush (v := 2000) hx hb d_M_init_14 (by decide) ?_
  have lt9 := oad1.lt
  have hSp := hS
  refine z_newi hx hb (ht _ q260) hK hS 2000 rfl (by decide) (Nat.le_of_ble_eq_true rfl) (Nat.le_of_ble_eq_true rfl) d_M_init_17 (fun ad4 H hqad4 hzad4 oad4 hoad4 hS => ?_)
  have neaad4 : a ≠ ad4 := by rw [hqad4]; exact Nat.ne_of_lt oa.lt
  have oa := oa.grew hoad4
  have nead1ad4 : ad1 ≠ ad4 := by rw [hqad4]; exact Nat.ne_of_lt oad1.lt
  have oad1 := oad1.grew hoad4
  have hgad4 : s.heap.size ≤ ad4 := by rw [hqad4]; exact hSp.1
  have hAad4 : (fun q => q = a ∨ s.heap.size ≤ q) ad4 := (Or.inr hgad4)
  have lt1 : ad1 < ad4 := by rw [hqad4]; exact lt9
  refine z_putF (ci := 10) (C := "ValueTreesModel") (T := T_M) (N := 12) hx hb ht in_M ty_M tyk_M nm_M hown hK hS hAa oa rfl 1 (by decide) (ht _ q540) (fun _ h9 => h9) rfl hin rfl rfl rfl (Nat.le_of_ble_eq_true rfl) d_M_init_19 (fun H locs oa hz5 ho6 hS => ?_)
  have oa : va_at D cls (a, .inr (10, [.ref ad1, .ref ad4, .null, .int 0, .null, .null, .null, .null, .int 0, .null, .int 0, .null])) H := oa
  have oad1 := oad1.off ho6 (Ne.symm neaad1)
  have oad4 := oad4.off ho6 (Ne.symm neaad4)
  refine lv_aload_n hx hb d_M_init_22 rfl (lv_at hl 0 rfl) ?_
  refine lv_sipush (v := 2000) hx hb d_M_init_23 (by decide) ?_
  have lt9 := oad4.lt
  have hSp := hS
  refine z_newi hx hb (ht _ q260) hK hS 2000 rfl (by decide) (Nat.le_of_ble_eq_true rfl) (Nat.le_of_ble_eq_true rfl) d_M_init_26 (fun ad7 H hqad7 hzad7 oad7 hoad7 hS => ?_)
  have neaad7 : a ≠ ad7 := by rw [hqad7]; exact Nat.ne_of_lt oa.lt
  have oa := oa.grew hoad7
  have nead1ad7 : ad1 ≠ ad7 := by rw [hqad7]; exact Nat.ne_of_lt oad1.lt
  have oad1 := oad1.grew hoad7
  have nead4ad7 : ad4 ≠ ad7 := by rw [hqad7]; exact Nat.ne_of_lt oad4.lt
  have oad4 := oad4.grew hoad7
  have hgad7 : s.heap.size ≤ ad7 := by rw [hqad7]; exact hSp.1
  have hAad7 : (fun q => q = a ∨ s.heap.size ≤ q) ad7 := (Or.inr hgad7)
  have lt2 : ad4 < ad7 := by rw [hqad7]; exact lt9
  refine z_putF (ci := 10) (C := "ValueTreesModel") (T := T_M) (N := 12) hx hb ht in_M ty_M tyk_M nm_M hown hK hS hAa oa rfl 2 (by decide) (ht _ q541) (fun _ h9 => h9) rfl hin rfl rfl rfl (Nat.le_of_ble_eq_true rfl) d_M_init_28 (fun H locs oa hz8 ho9 hS => ?_)
  have oa : va_at D cls (a, .inr (10, [.ref ad1, .ref ad4, .ref ad7, .int 0, .null, .null, .null, .null, .int 0, .null, .int 0, .null])) H := oa
  have oad1 := oad1.off ho9 (Ne.symm neaad1)
  have oad4 := oad4.off ho9 (Ne.symm neaad4)
  have oad7 := oad7.off ho9 (Ne.symm neaad7)
  refine lv_aload_n hx hb d_M_init_31 rfl (lv_at hl 0 rfl) ?_
  refine lv_bipush (v := 16) hx hb d_M_init_32 (by decide) ?_
  have lt9 := oad7.lt
  have hSp := hS
  refine z_newi hx hb (ht _ q260) hK hS 16 rfl (by decide) (Nat.le_of_ble_eq_true rfl) (Nat.le_of_ble_eq_true rfl) d_M_init_34 (fun ad10 H hqad10 hzad10 oad10 hoad10 hS => ?_)
  have neaad10 : a ≠ ad10 := by rw [hqad10]; exact Nat.ne_of_lt oa.lt
  have oa := oa.grew hoad10
  have nead1ad10 : ad1 ≠ ad10 := by rw [hqad10]; exact Nat.ne_of_lt oad1.lt
  have oad1 := oad1.grew hoad10
  have nead4ad10 : ad4 ≠ ad10 := by rw [hqad10]; exact Nat.ne_of_lt oad4.lt
  have oad4 := oad4.grew hoad10
  have nead7ad10 : ad7 ≠ ad10 := by rw [hqad10]; exact Nat.ne_of_lt oad7.lt
  have oad7 := oad7.grew hoad10
  have hgad10 : s.heap.size ≤ ad10 := by rw [hqad10]; exact hSp.1
  have hAad10 : (fun q => q = a ∨ s.heap.size ≤ q) ad10 := (Or.inr hgad10)
  have lt3 : ad7 < ad10 := by rw [hqad10]; exact lt9
  refine z_putF (ci := 10) (C := "ValueTreesModel") (T := T_M) (N := 12) hx hb ht in_M ty_M tyk_M nm_M hown hK hS hAa oa rfl 4 (by decide) (ht _ q543) (fun _ h9 => h9) rfl hin rfl rfl rfl (Nat.le_of_ble_eq_true rfl) d_M_init_36 (fun H locs oa hz11 ho12 hS => ?_)
  have oa : va_at D cls (a, .inr (10, [.ref ad1, .ref ad4, .ref ad7, .int 0, .ref ad10, .null, .null, .null, .int 0, .null, .int 0, .null])) H := oa
  have oad1 := oad1.off ho12 (Ne.symm neaad1)
  have oad4 := oad4.off ho12 (Ne.symm neaad4)
  have oad7 := oad7.off ho12 (Ne.symm neaad7)
  have oad10 := oad10.off ho12 (Ne.symm neaad10)
  refine lv_aload_n hx hb d_M_init_39 rfl (lv_at hl 0 rfl) ?_
  refine lv_sipush (v := 2560) hx hb d_M_init_40 (by decide) ?_
  have lt9 := oad10.lt
  have hSp := hS
  refine z_newb hx hb (ht _ q576) hK hS 2560 rfl (by decide) (Nat.le_of_ble_eq_true rfl) (Nat.le_of_ble_eq_true rfl) d_M_init_43 (fun ad13 H hqad13 hzad13 oad13 hoad13 hS => ?_)
  have neaad13 : a ≠ ad13 := by rw [hqad13]; exact Nat.ne_of_lt oa.lt
  have oa := oa.grew hoad13
  have nead1ad13 : ad1 ≠ ad13 := by rw [hqad13]; exact Nat.ne_of_lt oad1.lt
  have oad1 := oad1.grew hoad13
  have nead4ad13 : ad4 ≠ ad13 := by rw [hqad13]; exact Nat.ne_of_lt oad4.lt
  have oad4 := oad4.grew hoad13
  have nead7ad13 : ad7 ≠ ad13 := by rw [hqad13]; exact Nat.ne_of_lt oad7.lt
  have oad7 := oad7.grew hoad13
  have nead10ad13 : ad10 ≠ ad13 := by rw [hqad13]; exact Nat.ne_of_lt oad10.lt
  have oad10 := oad10.grew hoad13
  have hgad13 : s.heap.size ≤ ad13 := by rw [hqad13]; exact hSp.1
  have hAad13 : (fun q => q = a ∨ s.heap.size ≤ q) ad13 := (Or.inr hgad13)
  have lt4 : ad10 < ad13 := by rw [hqad13]; exact lt9
  refine z_putF (ci := 10) (C := "ValueTreesModel") (T := T_M) (N := 12) hx hb ht in_M ty_M tyk_M nm_M hown hK hS hAa oa rfl 5 (by decide) (ht _ q544) (fun _ h9 => h9) rfl hin rfl rfl rfl (Nat.le_of_ble_eq_true rfl) d_M_init_45 (fun H locs oa hz14 ho15 hS => ?_)
  have oa : va_at D cls (a, .inr (10, [.ref ad1, .ref ad4, .ref ad7, .int 0, .ref ad10, .ref ad13, .null, .null, .int 0, .null, .int 0, .null])) H := oa
  have oad1 := oad1.off ho15 (Ne.symm neaad1)
  have oad4 := oad4.off ho15 (Ne.symm neaad4)
  have oad7 := oad7.off ho15 (Ne.symm neaad7)
  have oad10 := oad10.off ho15 (Ne.symm neaad10)
  have oad13 := oad13.off ho15 (Ne.symm neaad13)
  refine lv_aload_n hx hb d_M_init_48 rfl (lv_at hl 0 rfl) ?_
  refine lv_bipush (v := 16) hx hb d_M_init_49 (by decide) ?_
  have lt9 := oad13.lt
  have hSp := hS
  refine z_newi hx hb (ht _ q260) hK hS 16 rfl (by decide) (Nat.le_of_ble_eq_true rfl) (Nat.le_of_ble_eq_true rfl) d_M_init_51 (fun ad16 H hqad16 hzad16 oad16 hoad16 hS => ?_)
  have neaad16 : a ≠ ad16 := by rw [hqad16]; exact Nat.ne_of_lt oa.lt
  have oa := oa.grew hoad16
  have nead1ad16 : ad1 ≠ ad16 := by rw [hqad16]; exact Nat.ne_of_lt oad1.lt
  have oad1 := oad1.grew hoad16
  have nead4ad16 : ad4 ≠ ad16 := by rw [hqad16]; exact Nat.ne_of_lt oad4.lt
  have oad4 := oad4.grew hoad16
  have nead7ad16 : ad7 ≠ ad16 := by rw [hqad16]; exact Nat.ne_of_lt oad7.lt
  have oad7 := oad7.grew hoad16
  have nead10ad16 : ad10 ≠ ad16 := by rw [hqad16]; exact Nat.ne_of_lt oad10.lt
  have oad10 := oad10.grew hoad16
  have nead13ad16 : ad13 ≠ ad16 := by rw [hqad16]; exact Nat.ne_of_lt oad13.lt
  have oad13 := oad13.grew hoad16
  have hgad16 : s.heap.size ≤ ad16 := by rw [hqad16]; exact hSp.1
  have hAad16 : (fun q => q = a ∨ s.heap.size ≤ q) ad16 := (Or.inr hgad16)
  have lt5 : ad13 < ad16 := by rw [hqad16]; exact lt9
  refine z_putF (ci := 10) (C := "ValueTreesModel") (T := T_M) (N := 12) hx hb ht in_M ty_M tyk_M nm_M hown hK hS hAa oa rfl 6 (by decide) (ht _ q545) (fun _ h9 => h9) rfl hin rfl rfl rfl (Nat.le_of_ble_eq_true rfl) d_M_init_53 (fun H locs oa hz17 ho18 hS => ?_)
  have oa : va_at D cls (a, .inr (10, [.ref ad1, .ref ad4, .ref ad7, .int 0, .ref ad10, .ref ad13, .ref ad16, .null, .int 0, .null, .int 0, .null])) H := oa
  have oad1 := oad1.off ho18 (Ne.symm neaad1)
  have oad4 := oad4.off ho18 (Ne.symm neaad4)
  have oad7 := oad7.off ho18 (Ne.symm neaad7)
  have oad10 := oad10.off ho18 (Ne.symm neaad10)
  have oad13 := oad13.off ho18 (Ne.symm neaad13)
  have oad16 := oad16.off ho18 (Ne.symm neaad16)
  refine lv_aload_n hx hb d_M_init_56 rfl (lv_at hl 0 rfl) ?_
  refine lv_sipush (v := 400) hx hb d_M_init_57 (by decide) ?_
  have lt9 := oad16.lt
  have hSp := hS
  refine z_newb hx hb (ht _ q576) hK hS 400 rfl (by decide) (Nat.le_of_ble_eq_true rfl) (Nat.le_of_ble_eq_true rfl) d_M_init_60 (fun ad19 H hqad19 hzad19 oad19 hoad19 hS => ?_)
  have neaad19 : a ≠ ad19 := by rw [hqad19]; exact Nat.ne_of_lt oa.lt
  have oa := oa.grew hoad19
  have nead1ad19 : ad1 ≠ ad19 := by rw [hqad19]; exact Nat.ne_of_lt oad1.lt
  have oad1 := oad1.grew hoad19
  have nead4ad19 : ad4 ≠ ad19 := by rw [hqad19]; exact Nat.ne_of_lt oad4.lt
  have oad4 := oad4.grew hoad19
  have nead7ad19 : ad7 ≠ ad19 := by rw [hqad19]; exact Nat.ne_of_lt oad7.lt
  have oad7 := oad7.grew hoad19
  have nead10ad19 : ad10 ≠ ad19 := by rw [hqad19]; exact Nat.ne_of_lt oad10.lt
  have oad10 := oad10.grew hoad19
  have nead13ad19 : ad13 ≠ ad19 := by rw [hqad19]; exact Nat.ne_of_lt oad13.lt
  have oad13 := oad13.grew hoad19
  have nead16ad19 : ad16 ≠ ad19 := by rw [hqad19]; exact Nat.ne_of_lt oad16.lt
  have oad16 := oad16.grew hoad19
  have hgad19 : s.heap.size ≤ ad19 := by rw [hqad19]; exact hSp.1
  have hAad19 : (fun q => q = a ∨ s.heap.size ≤ q) ad19 := (Or.inr hgad19)
  have lt6 : ad16 < ad19 := by rw [hqad19]; exact lt9
  refine z_putF (ci := 10) (C := "ValueTreesModel") (T := T_M) (N := 12) hx hb ht in_M ty_M tyk_M nm_M hown hK hS hAa oa rfl 7 (by decide) (ht _ q546) (fun _ h9 => h9) rfl hin rfl rfl rfl (Nat.le_of_ble_eq_true rfl) d_M_init_62 (fun H locs oa hz20 ho21 hS => ?_)
  have oa : va_at D cls (a, .inr (10, [.ref ad1, .ref ad4, .ref ad7, .int 0, .ref ad10, .ref ad13, .ref ad16, .ref ad19, .int 0, .null, .int 0, .null])) H := oa
  have oad1 := oad1.off ho21 (Ne.symm neaad1)
  have oad4 := oad4.off ho21 (Ne.symm neaad4)
  have oad7 := oad7.off ho21 (Ne.symm neaad7)
  have oad10 := oad10.off ho21 (Ne.symm neaad10)
  have oad13 := oad13.off ho21 (Ne.symm neaad13)
  have oad16 := oad16.off ho21 (Ne.symm neaad16)
  have oad19 := oad19.off ho21 (Ne.symm neaad19)
  refine lv_aload_n hx hb d_M_init_65 rfl (lv_at hl 0 rfl) ?_
  refine lv_sipush (v := 140) hx hb d_M_init_66 (by decide) ?_
  have lt9 := oad19.lt
  have hSp := hS
  refine z_newi hx hb (ht _ q260) hK hS 140 rfl (by decide) (Nat.le_of_ble_eq_true rfl) (Nat.le_of_ble_eq_true rfl) d_M_init_69 (fun ad22 H hqad22 hzad22 oad22 hoad22 hS => ?_)
  have neaad22 : a ≠ ad22 := by rw [hqad22]; exact Nat.ne_of_lt oa.lt
  have oa := oa.grew hoad22
  have nead1ad22 : ad1 ≠ ad22 := by rw [hqad22]; exact Nat.ne_of_lt oad1.lt
  have oad1 := oad1.grew hoad22
  have nead4ad22 : ad4 ≠ ad22 := by rw [hqad22]; exact Nat.ne_of_lt oad4.lt
  have oad4 := oad4.grew hoad22
  have nead7ad22 : ad7 ≠ ad22 := by rw [hqad22]; exact Nat.ne_of_lt oad7.lt
  have oad7 := oad7.grew hoad22
  have nead10ad22 : ad10 ≠ ad22 := by rw [hqad22]; exact Nat.ne_of_lt oad10.lt
  have oad10 := oad10.grew hoad22
  have nead13ad22 : ad13 ≠ ad22 := by rw [hqad22]; exact Nat.ne_of_lt oad13.lt
  have oad13 := oad13.grew hoad22
  have nead16ad22 : ad16 ≠ ad22 := by rw [hqad22]; exact Nat.ne_of_lt oad16.lt
  have oad16 := oad16.grew hoad22
  have nead19ad22 : ad19 ≠ ad22 := by rw [hqad22]; exact Nat.ne_of_lt oad19.lt
  have oad19 := oad19.grew hoad22
  have hgad22 : s.heap.size ≤ ad22 := by rw [hqad22]; exact hSp.1
  have hAad22 : (fun q => q = a ∨ s.heap.size ≤ q) ad22 := (Or.inr hgad22)
  have lt7 : ad19 < ad22 := by rw [hqad22]; exact lt9
  refine z_putF (ci := 10) (C := "ValueTreesModel") (T := T_M) (N := 12) hx hb ht in_M ty_M tyk_M nm_M hown hK hS hAa oa rfl 9 (by decide) (ht _ q548) (fun _ h9 => h9) rfl hin rfl rfl rfl (Nat.le_of_ble_eq_true rfl) d_M_init_71 (fun H locs oa hz23 ho24 hS => ?_)
  have oa : va_at D cls (a, .inr (10, [.ref ad1, .ref ad4, .ref ad7, .int 0, .ref ad10, .ref ad13, .ref ad16, .ref ad19, .int 0, .ref ad22, .int 0, .null])) H := oa
  have oad1 := oad1.off ho24 (Ne.symm neaad1)
  have oad4 := oad4.off ho24 (Ne.symm neaad4)
  have oad7 := oad7.off ho24 (Ne.symm neaad7)
  have oad10 := oad10.off ho24 (Ne.symm neaad10)
  have oad13 := oad13.off ho24 (Ne.symm neaad13)
  have oad16 := oad16.off ho24 (Ne.symm neaad16)
  have oad19 := oad19.off ho24 (Ne.symm neaad19)
  have oad22 := oad22.off ho24 (Ne.symm neaad22)
  refine lv_aload_n hx hb d_M_init_74 rfl (lv_at hl 0 rfl) ?_
  refine lv_sipush (v := 140) hx hb d_M_init_75 (by decide) ?_
  have lt9 := oad22.lt
  have hSp := hS
  refine z_newi hx hb (ht _ q260) hK hS 140 rfl (by decide) (Nat.le_of_ble_eq_true rfl) (Nat.le_of_ble_eq_true rfl) d_M_init_78 (fun ad25 H hqad25 hzad25 oad25 hoad25 hS => ?_)
  have neaad25 : a ≠ ad25 := by rw [hqad25]; exact Nat.ne_of_lt oa.lt
  have oa := oa.grew hoad25
  have nead1ad25 : ad1 ≠ ad25 := by rw [hqad25]; exact Nat.ne_of_lt oad1.lt
  have oad1 := oad1.grew hoad25
  have nead4ad25 : ad4 ≠ ad25 := by rw [hqad25]; exact Nat.ne_of_lt oad4.lt
  have oad4 := oad4.grew hoad25
  have nead7ad25 : ad7 ≠ ad25 := by rw [hqad25]; exact Nat.ne_of_lt oad7.lt
  have oad7 := oad7.grew hoad25
  have nead10ad25 : ad10 ≠ ad25 := by rw [hqad25]; exact Nat.ne_of_lt oad10.lt
  have oad10 := oad10.grew hoad25
  have nead13ad25 : ad13 ≠ ad25 := by rw [hqad25]; exact Nat.ne_of_lt oad13.lt
  have oad13 := oad13.grew hoad25
  have nead16ad25 : ad16 ≠ ad25 := by rw [hqad25]; exact Nat.ne_of_lt oad16.lt
  have oad16 := oad16.grew hoad25
  have nead19ad25 : ad19 ≠ ad25 := by rw [hqad25]; exact Nat.ne_of_lt oad19.lt
  have oad19 := oad19.grew hoad25
  have nead22ad25 : ad22 ≠ ad25 := by rw [hqad25]; exact Nat.ne_of_lt oad22.lt
  have oad22 := oad22.grew hoad25
  have hgad25 : s.heap.size ≤ ad25 := by rw [hqad25]; exact hSp.1
  have hAad25 : (fun q => q = a ∨ s.heap.size ≤ q) ad25 := (Or.inr hgad25)
  have lt8 : ad22 < ad25 := by rw [hqad25]; exact lt9
  refine z_putF (ci := 10) (C := "ValueTreesModel") (T := T_M) (N := 12) hx hb ht in_M ty_M tyk_M nm_M hown hK hS hAa oa rfl 11 (by decide) (ht _ q550) (fun _ h9 => h9) rfl hin rfl rfl rfl (Nat.le_of_ble_eq_true rfl) d_M_init_80 (fun H locs oa hz26 ho27 hS => ?_)
  have oa : va_at D cls (a, .inr (10, [.ref ad1, .ref ad4, .ref ad7, .int 0, .ref ad10, .ref ad13, .ref ad16, .ref ad19, .int 0, .ref ad22, .int 0, .ref ad25])) H := oa
  have oad1 := oad1.off ho27 (Ne.symm neaad1)
  have oad4 := oad4.off ho27 (Ne.symm neaad4)
  have oad7 := oad7.off ho27 (Ne.symm neaad7)
  have oad10 := oad10.off ho27 (Ne.symm neaad10)
  have oad13 := oad13.off ho27 (Ne.symm neaad13)
  have oad16 := oad16.off ho27 (Ne.symm neaad16)
  have oad19 := oad19.off ho27 (Ne.symm neaad19)
  have oad22 := oad22.off ho27 (Ne.symm neaad22)
  have oad25 := oad25.off ho27 (Ne.symm neaad25)
  refine lv_iconst (v := 0) hx hb d_M_init_83 (by decide) ?_
  refine lv_istore_n (lv' := [(1, .int 0), (0, .ref a)]) hx hb d_M_init_84 rfl hl (by decide) rfl (fun ls hl => ?_)
  refine lv_iload_n hx hb d_M_init_85 rfl (lv_at hl 0 rfl) ?_
  refine lv_bipush (v := 9) hx hb d_M_init_86 (by decide) ?_
  refine lv_icmp_gt (tgt := 118) hx hb d_M_init_88 (by decide) (fun c28 => absurd c28 (by decide)) (fun _ => ?_)
  refine lv_aload_n hx hb d_M_init_91 rfl (lv_at hl 1 rfl) ?_
  refine va_get (D := D) (ci := 10) (v := .ref ad1) (C := "ValueTreesModel") (T := T_M) (N := 12) hx hb ht in_M hown hK.1 (z_1 oa) 0 rfl rfl 0 (by decide) (ht _ q539) (fun _ h9 => h9) rfl d_M_init_92 ?_
  refine lv_iload_n hx hb d_M_init_95 rfl (lv_at hl 0 rfl) ?_
  refine lv_iload_n hx hb d_M_init_96 rfl (lv_at hl 0 rfl) ?_
  refine z_ias hx hb hK hS hAad1 oad1 0 rfl (by decide) (by omega) d_M_init_97 (fun H locs oad1 hz29 ho30 hS => ?_)
  have oa := oa.off ho30 neaad1
  have oad4 := oad4.off ho30 (Ne.symm nead1ad4)
  have oad7 := oad7.off ho30 (Ne.symm nead1ad7)
  have oad10 := oad10.off ho30 (Ne.symm nead1ad10)
  have oad13 := oad13.off ho30 (Ne.symm nead1ad13)
  have oad16 := oad16.off ho30 (Ne.symm nead1ad16)
  have oad19 := oad19.off ho30 (Ne.symm nead1ad19)
  have oad22 := oad22.off ho30 (Ne.symm nead1ad22)
  have oad25 := oad25.off ho30 (Ne.symm nead1ad25)
  refine lv_aload_n hx hb d_M_init_98 rfl (lv_at hl 1 rfl) ?_
  refine va_get (D := D) (ci := 10) (v := .ref ad4) (C := "ValueTreesModel") (T := T_M) (N := 12) hx hb ht in_M hown hK.1 (z_1 oa) 0 rfl rfl 1 (by decide) (ht _ q540) (fun _ h9 => h9) rfl d_M_init_99 ?_
  refine lv_iload_n hx hb d_M_init_102 rfl (lv_at hl 0 rfl) ?_
  refine lv_iconst (v := (-1)) hx hb d_M_init_103 (by decide) ?_
  refine z_ias hx hb hK hS hAad4 oad4 0 rfl (by decide) (by omega) d_M_init_104 (fun H locs oad4 hz31 ho32 hS => ?_)
  have oa := oa.off ho32 neaad4
  have oad1 := oad1.off ho32 nead1ad4
  have oad7 := oad7.off ho32 (Ne.symm nead4ad7)
  have oad10 := oad10.off ho32 (Ne.symm nead4ad10)
  have oad13 := oad13.off ho32 (Ne.symm nead4ad13)
  have oad16 := oad16.off ho32 (Ne.symm nead4ad16)
  have oad19 := oad19.off ho32 (Ne.symm nead4ad19)
  have oad22 := oad22.off ho32 (Ne.symm nead4ad22)
  have oad25 := oad25.off ho32 (Ne.symm nead4ad25)
  refine lv_aload_n hx hb d_M_init_105 rfl (lv_at hl 1 rfl) ?_
  refine va_get (D := D) (ci := 10) (v := .ref ad7) (C := "ValueTreesModel") (T := T_M) (N := 12) hx hb ht in_M hown hK.1 (z_1 oa) 0 rfl rfl 2 (by decide) (ht _ q541) (fun _ h9 => h9) rfl d_M_init_106 ?_
  refine lv_iload_n hx hb d_M_init_109 rfl (lv_at hl 0 rfl) ?_
  refine lv_iconst (v := (-1)) hx hb d_M_init_110 (by decide) ?_
  refine z_ias hx hb hK hS hAad7 oad7 0 rfl (by decide) (by omega) d_M_init_111 (fun H locs oad7 hz33 ho34 hS => ?_)
  have oa := oa.off ho34 neaad7
  have oad1 := oad1.off ho34 nead1ad7
  have oad4 := oad4.off ho34 nead4ad7
  have oad10 := oad10.off ho34 (Ne.symm nead7ad10)
  have oad13 := oad13.off ho34 (Ne.symm nead7ad13)
  have oad16 := oad16.off ho34 (Ne.symm nead7ad16)
  have oad19 := oad19.off ho34 (Ne.symm nead7ad19)
  have oad22 := oad22.off ho34 (Ne.symm nead7ad22)
  have oad25 := oad25.off ho34 (Ne.symm nead7ad25)
  refine lv_iinc (v := 1) (lv' := [(1, .int 1), (0, .ref a)]) hx hb d_M_init_112 hl (k := 0) rfl (by decide) (by decide) rfl (fun ls hl => ?_)
  refine lv_goto (tgt := 85) hx hb d_M_init_115 (by decide) ?_
  refine lv_iload_n hx hb d_M_init_85 rfl (lv_at hl 0 rfl) ?_
  refine lv_bipush (v := 9) hx hb d_M_init_86 (by decide) ?_
  refine lv_icmp_gt (tgt := 118) hx hb d_M_init_88 (by decide) (fun c35 => absurd c35 (by decide)) (fun _ => ?_)
  refine lv_aload_n hx hb d_M_init_91 rfl (lv_at hl 1 rfl) ?_
  refine va_get (D := D) (ci := 10) (v := .ref ad1) (C := "ValueTreesModel") (T := T_M) (N := 12) hx hb ht in_M hown hK.1 (z_1 oa) 0 rfl rfl 0 (by decide) (ht _ q539) (fun _ h9 => h9) rfl d_M_init_92 ?_
  refine lv_iload_n hx hb d_M_init_95 rfl (lv_at hl 0 rfl) ?_
  refine lv_iload_n hx hb d_M_init_96 rfl (lv_at hl 0 rfl) ?_
  refine z_ias hx hb hK hS hAad1 oad1 1 rfl (by decide) (by omega) d_M_init_97 (fun H locs oad1 hz36 ho37 hS => ?_)
  have oa := oa.off ho37 neaad1
  have oad4 := oad4.off ho37 (Ne.symm nead1ad4)
  have oad7 := oad7.off ho37 (Ne.symm nead1ad7)
  have oad10 := oad10.off ho37 (Ne.symm nead1ad10)
  have oad13 := oad13.off ho37 (Ne.symm nead1ad13)
  have oad16 := oad16.off ho37 (Ne.symm nead1ad16)
  have oad19 := oad19.off ho37 (Ne.symm nead1ad19)
  have oad22 := oad22.off ho37 (Ne.symm nead1ad22)
  have oad25 := oad25.off ho37 (Ne.symm nead1ad25)
  refine lv_aload_n hx hb d_M_init_98 rfl (lv_at hl 1 rfl) ?_
  refine va_get (D := D) (ci := 10) (v := .ref ad4) (C := "ValueTreesModel") (T := T_M) (N := 12) hx hb ht in_M hown hK.1 (z_1 oa) 0 rfl rfl 1 (by decide) (ht _ q540) (fun _ h9 => h9) rfl d_M_init_99 ?_
  refine lv_iload_n hx hb d_M_init_102 rfl (lv_at hl 0 rfl) ?_
  refine lv_iconst (v := (-1)) hx hb d_M_init_103 (by decide) ?_
  refine z_ias hx hb hK hS hAad4 oad4 1 rfl (by decide) (by omega) d_M_init_104 (fun H locs oad4 hz38 ho39 hS => ?_)
  have oa := oa.off ho39 neaad4
  have oad1 := oad1.off ho39 nead1ad4
  have oad7 := oad7.off ho39 (Ne.symm nead4ad7)
  have oad10 := oad10.off ho39 (Ne.symm nead4ad10)
  have oad13 := oad13.off ho39 (Ne.symm nead4ad13)
  have oad16 := oad16.off ho39 (Ne.symm nead4ad16)
  have oad19 := oad19.off ho39 (Ne.symm nead4ad19)
  have oad22 := oad22.off ho39 (Ne.symm nead4ad22)
  have oad25 := oad25.off ho39 (Ne.symm nead4ad25)
  refine lv_aload_n hx hb d_M_init_105 rfl (lv_at hl 1 rfl) ?_
  refine va_get (D := D) (ci := 10) (v := .ref ad7) (C := "ValueTreesModel") (T := T_M) (N := 12) hx hb ht in_M hown hK.1 (z_1 oa) 0 rfl rfl 2 (by decide) (ht _ q541) (fun _ h9 => h9) rfl d_M_init_106 ?_
  refine lv_iload_n hx hb d_M_init_109 rfl (lv_at hl 0 rfl) ?_
  refine lv_iconst (v := (-1)) hx hb d_M_init_110 (by decide) ?_
  refine z_ias hx hb hK hS hAad7 oad7 1 rfl (by decide) (by omega) d_M_init_111 (fun H locs oad7 hz40 ho41 hS => ?_)
  have oa := oa.off ho41 neaad7
  have oad1 := oad1.off ho41 nead1ad7
  have oad4 := oad4.off ho41 nead4ad7
  have oad10 := oad10.off ho41 (Ne.symm nead7ad10)
  have oad13 := oad13.off ho41 (Ne.symm nead7ad13)
  have oad16 := oad16.off ho41 (Ne.symm nead7ad16)
  have oad19 := oad19.off ho41 (Ne.symm nead7ad19)
  have oad22 := oad22.off ho41 (Ne.symm nead7ad22)
  have oad25 := oad25.off ho41 (Ne.symm nead7ad25)
  refine lv_iinc (v := 2) (lv' := [(1, .int 2), (0, .ref a)]) hx hb d_M_init_112 hl (k := 0) rfl (by decide) (by decide) rfl (fun ls hl => ?_)
  refine lv_goto (tgt := 85) hx hb d_M_init_115 (by decide) ?_
  refine lv_iload_n hx hb d_M_init_85 rfl (lv_at hl 0 rfl) ?_
  refine lv_bipush (v := 9) hx hb d_M_init_86 (by decide) ?_
  refine lv_icmp_gt (tgt := 118) hx hb d_M_init_88 (by decide) (fun c42 => absurd c42 (by decide)) (fun _ => ?_)
  refine lv_aload_n hx hb d_M_init_91 rfl (lv_at hl 1 rfl) ?_
  refine va_get (D := D) (ci := 10) (v := .ref ad1) (C := "ValueTreesModel") (T := T_M) (N := 12) hx hb ht in_M hown hK.1 (z_1 oa) 0 rfl rfl 0 (by decide) (ht _ q539) (fun _ h9 => h9) rfl d_M_init_92 ?_
  refine lv_iload_n hx hb d_M_init_95 rfl (lv_at hl 0 rfl) ?_
  refine lv_iload_n hx hb d_M_init_96 rfl (lv_at hl 0 rfl) ?_
  refine z_ias hx hb hK hS hAad1 oad1 2 rfl (by decide) (by omega) d_M_init_97 (fun H locs oad1 hz43 ho44 hS => ?_)
  have oa := oa.off ho44 neaad1
  have oad4 := oad4.off ho44 (Ne.symm nead1ad4)
  have oad7 := oad7.off ho44 (Ne.symm nead1ad7)
  have oad10 := oad10.off ho44 (Ne.symm nead1ad10)
  have oad13 := oad13.off ho44 (Ne.symm nead1ad13)
  have oad16 := oad16.off ho44 (Ne.symm nead1ad16)
  have oad19 := oad19.off ho44 (Ne.symm nead1ad19)
  have oad22 := oad22.off ho44 (Ne.symm nead1ad22)
  have oad25 := oad25.off ho44 (Ne.symm nead1ad25)
  refine lv_aload_n hx hb d_M_init_98 rfl (lv_at hl 1 rfl) ?_
  refine va_get (D := D) (ci := 10) (v := .ref ad4) (C := "ValueTreesModel") (T := T_M) (N := 12) hx hb ht in_M hown hK.1 (z_1 oa) 0 rfl rfl 1 (by decide) (ht _ q540) (fun _ h9 => h9) rfl d_M_init_99 ?_
  refine lv_iload_n hx hb d_M_init_102 rfl (lv_at hl 0 rfl) ?_
  refine lv_iconst (v := (-1)) hx hb d_M_init_103 (by decide) ?_
  refine z_ias hx hb hK hS hAad4 oad4 2 rfl (by decide) (by omega) d_M_init_104 (fun H locs oad4 hz45 ho46 hS => ?_)
  have oa := oa.off ho46 neaad4
  have oad1 := oad1.off ho46 nead1ad4
  have oad7 := oad7.off ho46 (Ne.symm nead4ad7)
  have oad10 := oad10.off ho46 (Ne.symm nead4ad10)
  have oad13 := oad13.off ho46 (Ne.symm nead4ad13)
  have oad16 := oad16.off ho46 (Ne.symm nead4ad16)
  have oad19 := oad19.off ho46 (Ne.symm nead4ad19)
  have oad22 := oad22.off ho46 (Ne.symm nead4ad22)
  have oad25 := oad25.off ho46 (Ne.symm nead4ad25)
  refine lv_aload_n hx hb d_M_init_105 rfl (lv_at hl 1 rfl) ?_
  refine va_get (D := D) (ci := 10) (v := .ref ad7) (C := "ValueTreesModel") (T := T_M) (N := 12) hx hb ht in_M hown hK.1 (z_1 oa) 0 rfl rfl 2 (by decide) (ht _ q541) (fun _ h9 => h9) rfl d_M_init_106 ?_
  refine lv_iload_n hx hb d_M_init_109 rfl (lv_at hl 0 rfl) ?_
  refine lv_iconst (v := (-1)) hx hb d_M_init_110 (by decide) ?_
  refine z_ias hx hb hK hS hAad7 oad7 2 rfl (by decide) (by omega) d_M_init_111 (fun H locs oad7 hz47 ho48 hS => ?_)
  have oa := oa.off ho48 neaad7
  have oad1 := oad1.off ho48 nead1ad7
  have oad4 := oad4.off ho48 nead4ad7
  have oad10 := oad10.off ho48 (Ne.symm nead7ad10)
  have oad13 := oad13.off ho48 (Ne.symm nead7ad13)
  have oad16 := oad16.off ho48 (Ne.symm nead7ad16)
  have oad19 := oad19.off ho48 (Ne.symm nead7ad19)
  have oad22 := oad22.off ho48 (Ne.symm nead7ad22)
  have oad25 := oad25.off ho48 (Ne.symm nead7ad25)
  refine lv_iinc (v := 3) (lv' := [(1, .int 3), (0, .ref a)]) hx hb d_M_init_112 hl (k := 0) rfl (by decide) (by decide) rfl (fun ls hl => ?_)
  refine lv_goto (tgt := 85) hx hb d_M_init_115 (by decide) ?_
  refine lv_iload_n hx hb d_M_init_85 rfl (lv_at hl 0 rfl) ?_
  refine lv_bipush (v := 9) hx hb d_M_init_86 (by decide) ?_
  refine lv_icmp_gt (tgt := 118) hx hb d_M_init_88 (by decide) (fun c49 => absurd c49 (by decide)) (fun _ => ?_)
  refine lv_aload_n hx hb d_M_init_91 rfl (lv_at hl 1 rfl) ?_
  refine va_get (D := D) (ci := 10) (v := .ref ad1) (C := "ValueTreesModel") (T := T_M) (N := 12) hx hb ht in_M hown hK.1 (z_1 oa) 0 rfl rfl 0 (by decide) (ht _ q539) (fun _ h9 => h9) rfl d_M_init_92 ?_
  refine lv_iload_n hx hb d_M_init_95 rfl (lv_at hl 0 rfl) ?_
  refine lv_iload_n hx hb d_M_init_96 rfl (lv_at hl 0 rfl) ?_
  refine z_ias hx hb hK hS hAad1 oad1 3 rfl (by decide) (by omega) d_M_init_97 (fun H locs oad1 hz50 ho51 hS => ?_)
  have oa := oa.off ho51 neaad1
  have oad4 := oad4.off ho51 (Ne.symm nead1ad4)
  have oad7 := oad7.off ho51 (Ne.symm nead1ad7)
  have oad10 := oad10.off ho51 (Ne.symm nead1ad10)
  have oad13 := oad13.off ho51 (Ne.symm nead1ad13)
  have oad16 := oad16.off ho51 (Ne.symm nead1ad16)
  have oad19 := oad19.off ho51 (Ne.symm nead1ad19)
  have oad22 := oad22.off ho51 (Ne.symm nead1ad22)
  have oad25 := oad25.off ho51 (Ne.symm nead1ad25)
  refine lv_aload_n hx hb d_M_init_98 rfl (lv_at hl 1 rfl) ?_
  refine va_get (D := D) (ci := 10) (v := .ref ad4) (C := "ValueTreesModel") (T := T_M) (N := 12) hx hb ht in_M hown hK.1 (z_1 oa) 0 rfl rfl 1 (by decide) (ht _ q540) (fun _ h9 => h9) rfl d_M_init_99 ?_
  refine lv_iload_n hx hb d_M_init_102 rfl (lv_at hl 0 rfl) ?_
  refine lv_iconst (v := (-1)) hx hb d_M_init_103 (by decide) ?_
  refine z_ias hx hb hK hS hAad4 oad4 3 rfl (by decide) (by omega) d_M_init_104 (fun H locs oad4 hz52 ho53 hS => ?_)
  have oa := oa.off ho53 neaad4
  have oad1 := oad1.off ho53 nead1ad4
  have oad7 := oad7.off ho53 (Ne.symm nead4ad7)
  have oad10 := oad10.off ho53 (Ne.symm nead4ad10)
  have oad13 := oad13.off ho53 (Ne.symm nead4ad13)
  have oad16 := oad16.off ho53 (Ne.symm nead4ad16)
  have oad19 := oad19.off ho53 (Ne.symm nead4ad19)
  have oad22 := oad22.off ho53 (Ne.symm nead4ad22)
  have oad25 := oad25.off ho53 (Ne.symm nead4ad25)
  refine lv_aload_n hx hb d_M_init_105 rfl (lv_at hl 1 rfl) ?_
  refine va_get (D := D) (ci := 10) (v := .ref ad7) (C := "ValueTreesModel") (T := T_M) (N := 12) hx hb ht in_M hown hK.1 (z_1 oa) 0 rfl rfl 2 (by decide) (ht _ q541) (fun _ h9 => h9) rfl d_M_init_106 ?_
  refine lv_iload_n hx hb d_M_init_109 rfl (lv_at hl 0 rfl) ?_
  refine lv_iconst (v := (-1)) hx hb d_M_init_110 (by decide) ?_
  refine z_ias hx hb hK hS hAad7 oad7 3 rfl (by decide) (by omega) d_M_init_111 (fun H locs oad7 hz54 ho55 hS => ?_)
  have oa := oa.off ho55 neaad7
  have oad1 := oad1.off ho55 nead1ad7
  have oad4 := oad4.off ho55 nead4ad7
  have oad10 := oad10.off ho55 (Ne.symm nead7ad10)
  have oad13 := oad13.off ho55 (Ne.symm nead7ad13)
  have oad16 := oad16.off ho55 (Ne.symm nead7ad16)
  have oad19 := oad19.off ho55 (Ne.symm nead7ad19)
  have oad22 := oad22.off ho55 (Ne.symm nead7ad22)
  have oad25 := oad25.off ho55 (Ne.symm nead7ad25)
  refine lv_iinc (v := 4) (lv' := [(1, .int 4), (0, .ref a)]) hx hb d_M_init_112 hl (k := 0) rfl (by decide) (by decide) rfl (fun ls hl => ?_)
  refine lv_goto (tgt := 85) hx hb d_M_init_115 (by decide) ?_
  refine lv_iload_n hx hb d_M_init_85 rfl (lv_at hl 0 rfl) ?_
  refine lv_bipush (v := 9) hx hb d_M_init_86 (by decide) ?_
  refine lv_icmp_gt (tgt := 118) hx hb d_M_init_88 (by decide) (fun c56 => absurd c56 (by decide)) (fun _ => ?_)
  refine lv_aload_n hx hb d_M_init_91 rfl (lv_at hl 1 rfl) ?_
  refine va_get (D := D) (ci := 10) (v := .ref ad1) (C := "ValueTreesModel") (T := T_M) (N := 12) hx hb ht in_M hown hK.1 (z_1 oa) 0 rfl rfl 0 (by decide) (ht _ q539) (fun _ h9 => h9) rfl d_M_init_92 ?_
  refine lv_iload_n hx hb d_M_init_95 rfl (lv_at hl 0 rfl) ?_
  refine lv_iload_n hx hb d_M_init_96 rfl (lv_at hl 0 rfl) ?_
  refine z_ias hx hb hK hS hAad1 oad1 4 rfl (by decide) (by omega) d_M_init_97 (fun H locs oad1 hz57 ho58 hS => ?_)
  have oa := oa.off ho58 neaad1
  have oad4 := oad4.off ho58 (Ne.symm nead1ad4)
  have oad7 := oad7.off ho58 (Ne.symm nead1ad7)
  have oad10 := oad10.off ho58 (Ne.symm nead1ad10)
  have oad13 := oad13.off ho58 (Ne.symm nead1ad13)
  have oad16 := oad16.off ho58 (Ne.symm nead1ad16)
  have oad19 := oad19.off ho58 (Ne.symm nead1ad19)
  have oad22 := oad22.off ho58 (Ne.symm nead1ad22)
  have oad25 := oad25.off ho58 (Ne.symm nead1ad25)
  refine lv_aload_n hx hb d_M_init_98 rfl (lv_at hl 1 rfl) ?_
  refine va_get (D := D) (ci := 10) (v := .ref ad4) (C := "ValueTreesModel") (T := T_M) (N := 12) hx hb ht in_M hown hK.1 (z_1 oa) 0 rfl rfl 1 (by decide) (ht _ q540) (fun _ h9 => h9) rfl d_M_init_99 ?_
  refine lv_iload_n hx hb d_M_init_102 rfl (lv_at hl 0 rfl) ?_
  refine lv_iconst (v := (-1)) hx hb d_M_init_103 (by decide) ?_
  refine z_ias hx hb hK hS hAad4 oad4 4 rfl (by decide) (by omega) d_M_init_104 (fun H locs oad4 hz59 ho60 hS => ?_)
  have oa := oa.off ho60 neaad4
  have oad1 := oad1.off ho60 nead1ad4
  have oad7 := oad7.off ho60 (Ne.symm nead4ad7)
  have oad10 := oad10.off ho60 (Ne.symm nead4ad10)
  have oad13 := oad13.off ho60 (Ne.symm nead4ad13)
  have oad16 := oad16.off ho60 (Ne.symm nead4ad16)
  have oad19 := oad19.off ho60 (Ne.symm nead4ad19)
  have oad22 := oad22.off ho60 (Ne.symm nead4ad22)
  have oad25 := oad25.off ho60 (Ne.symm nead4ad25)
  refine lv_aload_n hx hb d_M_init_105 rfl (lv_at hl 1 rfl) ?_
  refine va_get (D := D) (ci := 10) (v := .ref ad7) (C := "ValueTreesModel") (T := T_M) (N := 12) hx hb ht in_M hown hK.1 (z_1 oa) 0 rfl rfl 2 (by decide) (ht _ q541) (fun _ h9 => h9) rfl d_M_init_106 ?_
  refine lv_iload_n hx hb d_M_init_109 rfl (lv_at hl 0 rfl) ?_
  refine lv_iconst (v := (-1)) hx hb d_M_init_110 (by decide) ?_
  refine z_ias hx hb hK hS hAad7 oad7 4 rfl (by decide) (by omega) d_M_init_111 (fun H locs oad7 hz61 ho62 hS => ?_)
  have oa := oa.off ho62 neaad7
  have oad1 := oad1.off ho62 nead1ad7
  have oad4 := oad4.off ho62 nead4ad7
  have oad10 := oad10.off ho62 (Ne.symm nead7ad10)
  have oad13 := oad13.off ho62 (Ne.symm nead7ad13)
  have oad16 := oad16.off ho62 (Ne.symm nead7ad16)
  have oad19 := oad19.off ho62 (Ne.symm nead7ad19)
  have oad22 := oad22.off ho62 (Ne.symm nead7ad22)
  have oad25 := oad25.off ho62 (Ne.symm nead7ad25)
  refine lv_iinc (v := 5) (lv' := [(1, .int 5), (0, .ref a)]) hx hb d_M_init_112 hl (k := 0) rfl (by decide) (by decide) rfl (fun ls hl => ?_)
  refine lv_goto (tgt := 85) hx hb d_M_init_115 (by decide) ?_
  refine lv_iload_n hx hb d_M_init_85 rfl (lv_at hl 0 rfl) ?_
  refine lv_bipush (v := 9) hx hb d_M_init_86 (by decide) ?_
  refine lv_icmp_gt (tgt := 118) hx hb d_M_init_88 (by decide) (fun c63 => absurd c63 (by decide)) (fun _ => ?_)
  refine lv_aload_n hx hb d_M_init_91 rfl (lv_at hl 1 rfl) ?_
  refine va_get (D := D) (ci := 10) (v := .ref ad1) (C := "ValueTreesModel") (T := T_M) (N := 12) hx hb ht in_M hown hK.1 (z_1 oa) 0 rfl rfl 0 (by decide) (ht _ q539) (fun _ h9 => h9) rfl d_M_init_92 ?_
  refine lv_iload_n hx hb d_M_init_95 rfl (lv_at hl 0 rfl) ?_
  refine lv_iload_n hx hb d_M_init_96 rfl (lv_at hl 0 rfl) ?_
  refine z_ias hx hb hK hS hAad1 oad1 5 rfl (by decide) (by omega) d_M_init_97 (fun H locs oad1 hz64 ho65 hS => ?_)
  have oa := oa.off ho65 neaad1
  have oad4 := oad4.off ho65 (Ne.symm nead1ad4)
  have oad7 := oad7.off ho65 (Ne.symm nead1ad7)
  have oad10 := oad10.off ho65 (Ne.symm nead1ad10)
  have oad13 := oad13.off ho65 (Ne.symm nead1ad13)
  have oad16 := oad16.off ho65 (Ne.symm nead1ad16)
  have oad19 := oad19.off ho65 (Ne.symm nead1ad19)
  have oad22 := oad22.off ho65 (Ne.symm nead1ad22)
  have oad25 := oad25.off ho65 (Ne.symm nead1ad25)
  refine lv_aload_n hx hb d_M_init_98 rfl (lv_at hl 1 rfl) ?_
  refine va_get (D := D) (ci := 10) (v := .ref ad4) (C := "ValueTreesModel") (T := T_M) (N := 12) hx hb ht in_M hown hK.1 (z_1 oa) 0 rfl rfl 1 (by decide) (ht _ q540) (fun _ h9 => h9) rfl d_M_init_99 ?_
  refine lv_iload_n hx hb d_M_init_102 rfl (lv_at hl 0 rfl) ?_
  refine lv_iconst (v := (-1)) hx hb d_M_init_103 (by decide) ?_
  refine z_ias hx hb hK hS hAad4 oad4 5 rfl (by decide) (by omega) d_M_init_104 (fun H locs oad4 hz66 ho67 hS => ?_)
  have oa := oa.off ho67 neaad4
  have oad1 := oad1.off ho67 nead1ad4
  have oad7 := oad7.off ho67 (Ne.symm nead4ad7)
  have oad10 := oad10.off ho67 (Ne.symm nead4ad10)
  have oad13 := oad13.off ho67 (Ne.symm nead4ad13)
  have oad16 := oad16.off ho67 (Ne.symm nead4ad16)
  have oad19 := oad19.off ho67 (Ne.symm nead4ad19)
  have oad22 := oad22.off ho67 (Ne.symm nead4ad22)
  have oad25 := oad25.off ho67 (Ne.symm nead4ad25)
  refine lv_aload_n hx hb d_M_init_105 rfl (lv_at hl 1 rfl) ?_
  refine va_get (D := D) (ci := 10) (v := .ref ad7) (C := "ValueTreesModel") (T := T_M) (N := 12) hx hb ht in_M hown hK.1 (z_1 oa) 0 rfl rfl 2 (by decide) (ht _ q541) (fun _ h9 => h9) rfl d_M_init_106 ?_
  refine lv_iload_n hx hb d_M_init_109 rfl (lv_at hl 0 rfl) ?_
  refine lv_iconst (v := (-1)) hx hb d_M_init_110 (by decide) ?_
  refine z_ias hx hb hK hS hAad7 oad7 5 rfl (by decide) (by omega) d_M_init_111 (fun H locs oad7 hz68 ho69 hS => ?_)
  have oa := oa.off ho69 neaad7
  have oad1 := oad1.off ho69 nead1ad7
  have oad4 := oad4.off ho69 nead4ad7
  have oad10 := oad10.off ho69 (Ne.symm nead7ad10)
  have oad13 := oad13.off ho69 (Ne.symm nead7ad13)
  have oad16 := oad16.off ho69 (Ne.symm nead7ad16)
  have oad19 := oad19.off ho69 (Ne.symm nead7ad19)
  have oad22 := oad22.off ho69 (Ne.symm nead7ad22)
  have oad25 := oad25.off ho69 (Ne.symm nead7ad25)
  refine lv_iinc (v := 6) (lv' := [(1, .int 6), (0, .ref a)]) hx hb d_M_init_112 hl (k := 0) rfl (by decide) (by decide) rfl (fun ls hl => ?_)
  refine lv_goto (tgt := 85) hx hb d_M_init_115 (by decide) ?_
  refine lv_iload_n hx hb d_M_init_85 rfl (lv_at hl 0 rfl) ?_
  refine lv_bipush (v := 9) hx hb d_M_init_86 (by decide) ?_
  refine lv_icmp_gt (tgt := 118) hx hb d_M_init_88 (by decide) (fun c70 => absurd c70 (by decide)) (fun _ => ?_)
  refine lv_aload_n hx hb d_M_init_91 rfl (lv_at hl 1 rfl) ?_
  refine va_get (D := D) (ci := 10) (v := .ref ad1) (C := "ValueTreesModel") (T := T_M) (N := 12) hx hb ht in_M hown hK.1 (z_1 oa) 0 rfl rfl 0 (by decide) (ht _ q539) (fun _ h9 => h9) rfl d_M_init_92 ?_
  refine lv_iload_n hx hb d_M_init_95 rfl (lv_at hl 0 rfl) ?_
  refine lv_iload_n hx hb d_M_init_96 rfl (lv_at hl 0 rfl) ?_
  refine z_ias hx hb hK hS hAad1 oad1 6 rfl (by decide) (by omega) d_M_init_97 (fun H locs oad1 hz71 ho72 hS => ?_)
  have oa := oa.off ho72 neaad1
  have oad4 := oad4.off ho72 (Ne.symm nead1ad4)
  have oad7 := oad7.off ho72 (Ne.symm nead1ad7)
  have oad10 := oad10.off ho72 (Ne.symm nead1ad10)
  have oad13 := oad13.off ho72 (Ne.symm nead1ad13)
  have oad16 := oad16.off ho72 (Ne.symm nead1ad16)
  have oad19 := oad19.off ho72 (Ne.symm nead1ad19)
  have oad22 := oad22.off ho72 (Ne.symm nead1ad22)
  have oad25 := oad25.off ho72 (Ne.symm nead1ad25)
  refine lv_aload_n hx hb d_M_init_98 rfl (lv_at hl 1 rfl) ?_
  refine va_get (D := D) (ci := 10) (v := .ref ad4) (C := "ValueTreesModel") (T := T_M) (N := 12) hx hb ht in_M hown hK.1 (z_1 oa) 0 rfl rfl 1 (by decide) (ht _ q540) (fun _ h9 => h9) rfl d_M_init_99 ?_
  refine lv_iload_n hx hb d_M_init_102 rfl (lv_at hl 0 rfl) ?_
  refine lv_iconst (v := (-1)) hx hb d_M_init_103 (by decide) ?_
  refine z_ias hx hb hK hS hAad4 oad4 6 rfl (by decide) (by omega) d_M_init_104 (fun H locs oad4 hz73 ho74 hS => ?_)
  have oa := oa.off ho74 neaad4
  have oad1 := oad1.off ho74 nead1ad4
  have oad7 := oad7.off ho74 (Ne.symm nead4ad7)
  have oad10 := oad10.off ho74 (Ne.symm nead4ad10)
  have oad13 := oad13.off ho74 (Ne.symm nead4ad13)
  have oad16 := oad16.off ho74 (Ne.symm nead4ad16)
  have oad19 := oad19.off ho74 (Ne.symm nead4ad19)
  have oad22 := oad22.off ho74 (Ne.symm nead4ad22)
  have oad25 := oad25.off ho74 (Ne.symm nead4ad25)
  refine lv_aload_n hx hb d_M_init_105 rfl (lv_at hl 1 rfl) ?_
  refine va_get (D := D) (ci := 10) (v := .ref ad7) (C := "ValueTreesModel") (T := T_M) (N := 12) hx hb ht in_M hown hK.1 (z_1 oa) 0 rfl rfl 2 (by decide) (ht _ q541) (fun _ h9 => h9) rfl d_M_init_106 ?_
  refine lv_iload_n hx hb d_M_init_109 rfl (lv_at hl 0 rfl) ?_
  refine lv_iconst (v := (-1)) hx hb d_M_init_110 (by decide) ?_
  refine z_ias hx hb hK hS hAad7 oad7 6 rfl (by decide) (by omega) d_M_init_111 (fun H locs oad7 hz75 ho76 hS => ?_)
  have oa := oa.off ho76 neaad7
  have oad1 := oad1.off ho76 nead1ad7
  have oad4 := oad4.off ho76 nead4ad7
  have oad10 := oad10.off ho76 (Ne.symm nead7ad10)
  have oad13 := oad13.off ho76 (Ne.symm nead7ad13)
  have oad16 := oad16.off ho76 (Ne.symm nead7ad16)
  have oad19 := oad19.off ho76 (Ne.symm nead7ad19)
  have oad22 := oad22.off ho76 (Ne.symm nead7ad22)
  have oad25 := oad25.off ho76 (Ne.symm nead7ad25)
  refine lv_iinc (v := 7) (lv' := [(1, .int 7), (0, .ref a)]) hx hb d_M_init_112 hl (k := 0) rfl (by decide) (by decide) rfl (fun ls hl => ?_)
  refine lv_goto (tgt := 85) hx hb d_M_init_115 (by decide) ?_
  refine lv_iload_n hx hb d_M_init_85 rfl (lv_at hl 0 rfl) ?_
  refine lv_bipush (v := 9) hx hb d_M_init_86 (by decide) ?_
  refine lv_icmp_gt (tgt := 118) hx hb d_M_init_88 (by decide) (fun c77 => absurd c77 (by decide)) (fun _ => ?_)
  refine lv_aload_n hx hb d_M_init_91 rfl (lv_at hl 1 rfl) ?_
  refine va_get (D := D) (ci := 10) (v := .ref ad1) (C := "ValueTreesModel") (T := T_M) (N := 12) hx hb ht in_M hown hK.1 (z_1 oa) 0 rfl rfl 0 (by decide) (ht _ q539) (fun _ h9 => h9) rfl d_M_init_92 ?_
  refine lv_iload_n hx hb d_M_init_95 rfl (lv_at hl 0 rfl) ?_
  refine lv_iload_n hx hb d_M_init_96 rfl (lv_at hl 0 rfl) ?_
  refine z_ias hx hb hK hS hAad1 oad1 7 rfl (by decide) (by omega) d_M_init_97 (fun H locs oad1 hz78 ho79 hS => ?_)
  have oa := oa.off ho79 neaad1
  have oad4 := oad4.off ho79 (Ne.symm nead1ad4)
  have oad7 := oad7.off ho79 (Ne.symm nead1ad7)
  have oad10 := oad10.off ho79 (Ne.symm nead1ad10)
  have oad13 := oad13.off ho79 (Ne.symm nead1ad13)
  have oad16 := oad16.off ho79 (Ne.symm nead1ad16)
  have oad19 := oad19.off ho79 (Ne.symm nead1ad19)
  have oad22 := oad22.off ho79 (Ne.symm nead1ad22)
  have oad25 := oad25.off ho79 (Ne.symm nead1ad25)
  refine lv_aload_n hx hb d_M_init_98 rfl (lv_at hl 1 rfl) ?_
  refine va_get (D := D) (ci := 10) (v := .ref ad4) (C := "ValueTreesModel") (T := T_M) (N := 12) hx hb ht in_M hown hK.1 (z_1 oa) 0 rfl rfl 1 (by decide) (ht _ q540) (fun _ h9 => h9) rfl d_M_init_99 ?_
  refine lv_iload_n hx hb d_M_init_102 rfl (lv_at hl 0 rfl) ?_
  refine lv_iconst (v := (-1)) hx hb d_M_init_103 (by decide) ?_
  refine z_ias hx hb hK hS hAad4 oad4 7 rfl (by decide) (by omega) d_M_init_104 (fun H locs oad4 hz80 ho81 hS => ?_)
  have oa := oa.off ho81 neaad4
  have oad1 := oad1.off ho81 nead1ad4
  have oad7 := oad7.off ho81 (Ne.symm nead4ad7)
  have oad10 := oad10.off ho81 (Ne.symm nead4ad10)
  have oad13 := oad13.off ho81 (Ne.symm nead4ad13)
  have oad16 := oad16.off ho81 (Ne.symm nead4ad16)
  have oad19 := oad19.off ho81 (Ne.symm nead4ad19)
  have oad22 := oad22.off ho81 (Ne.symm nead4ad22)
  have oad25 := oad25.off ho81 (Ne.symm nead4ad25)
  refine lv_aload_n hx hb d_M_init_105 rfl (lv_at hl 1 rfl) ?_
  refine va_get (D := D) (ci := 10) (v := .ref ad7) (C := "ValueTreesModel") (T := T_M) (N := 12) hx hb ht in_M hown hK.1 (z_1 oa) 0 rfl rfl 2 (by decide) (ht _ q541) (fun _ h9 => h9) rfl d_M_init_106 ?_
  refine lv_iload_n hx hb d_M_init_109 rfl (lv_at hl 0 rfl) ?_
  refine lv_iconst (v := (-1)) hx hb d_M_init_110 (by decide) ?_
  refine z_ias hx hb hK hS hAad7 oad7 7 rfl (by decide) (by omega) d_M_init_111 (fun H locs oad7 hz82 ho83 hS => ?_)
  have oa := oa.off ho83 neaad7
  have oad1 := oad1.off ho83 nead1ad7
  have oad4 := oad4.off ho83 nead4ad7
  have oad10 := oad10.off ho83 (Ne.symm nead7ad10)
  have oad13 := oad13.off ho83 (Ne.symm nead7ad13)
  have oad16 := oad16.off ho83 (Ne.symm nead7ad16)
  have oad19 := oad19.off ho83 (Ne.symm nead7ad19)
  have oad22 := oad22.off ho83 (Ne.symm nead7ad22)
  have oad25 := oad25.off ho83 (Ne.symm nead7ad25)
  refine lv_iinc (v := 8) (lv' := [(1, .int 8), (0, .ref a)]) hx hb d_M_init_112 hl (k := 0) rfl (by decide) (by decide) rfl (fun ls hl => ?_)
  refine lv_goto (tgt := 85) hx hb d_M_init_115 (by decide) ?_
  refine lv_iload_n hx hb d_M_init_85 rfl (lv_at hl 0 rfl) ?_
  refine lv_bipush (v := 9) hx hb d_M_init_86 (by decide) ?_
  refine lv_icmp_gt (tgt := 118) hx hb d_M_init_88 (by decide) (fun c84 => absurd c84 (by decide)) (fun _ => ?_)
  refine lv_aload_n hx hb d_M_init_91 rfl (lv_at hl 1 rfl) ?_
  refine va_get (D := D) (ci := 10) (v := .ref ad1) (C := "ValueTreesModel") (T := T_M) (N := 12) hx hb ht in_M hown hK.1 (z_1 oa) 0 rfl rfl 0 (by decide) (ht _ q539) (fun _ h9 => h9) rfl d_M_init_92 ?_
  refine lv_iload_n hx hb d_M_init_95 rfl (lv_at hl 0 rfl) ?_
  refine lv_iload_n hx hb d_M_init_96 rfl (lv_at hl 0 rfl) ?_
  refine z_ias hx hb hK hS hAad1 oad1 8 rfl (by decide) (by omega) d_M_init_97 (fun H locs oad1 hz85 ho86 hS => ?_)
  have oa := oa.off ho86 neaad1
  have oad4 := oad4.off ho86 (Ne.symm nead1ad4)
  have oad7 := oad7.off ho86 (Ne.symm nead1ad7)
  have oad10 := oad10.off ho86 (Ne.symm nead1ad10)
  have oad13 := oad13.off ho86 (Ne.symm nead1ad13)
  have oad16 := oad16.off ho86 (Ne.symm nead1ad16)
  have oad19 := oad19.off ho86 (Ne.symm nead1ad19)
  have oad22 := oad22.off ho86 (Ne.symm nead1ad22)
  have oad25 := oad25.off ho86 (Ne.symm nead1ad25)
  refine lv_aload_n hx hb d_M_init_98 rfl (lv_at hl 1 rfl) ?_
  refine va_get (D := D) (ci := 10) (v := .ref ad4) (C := "ValueTreesModel") (T := T_M) (N := 12) hx hb ht in_M hown hK.1 (z_1 oa) 0 rfl rfl 1 (by decide) (ht _ q540) (fun _ h9 => h9) rfl d_M_init_99 ?_
  refine lv_iload_n hx hb d_M_init_102 rfl (lv_at hl 0 rfl) ?_
  refine lv_iconst (v := (-1)) hx hb d_M_init_103 (by decide) ?_
  refine z_ias hx hb hK hS hAad4 oad4 8 rfl (by decide) (by omega) d_M_init_104 (fun H locs oad4 hz87 ho88 hS => ?_)
  have oa := oa.off ho88 neaad4
  have oad1 := oad1.off ho88 nead1ad4
  have oad7 := oad7.off ho88 (Ne.symm nead4ad7)
  have oad10 := oad10.off ho88 (Ne.symm nead4ad10)
  have oad13 := oad13.off ho88 (Ne.symm nead4ad13)
  have oad16 := oad16.off ho88 (Ne.symm nead4ad16)
  have oad19 := oad19.off ho88 (Ne.symm nead4ad19)
  have oad22 := oad22.off ho88 (Ne.symm nead4ad22)
  have oad25 := oad25.off ho88 (Ne.symm nead4ad25)
  refine lv_aload_n hx hb d_M_init_105 rfl (lv_at hl 1 rfl) ?_
  refine va_get (D := D) (ci := 10) (v := .ref ad7) (C := "ValueTreesModel") (T := T_M) (N := 12) hx hb ht in_M hown hK.1 (z_1 oa) 0 rfl rfl 2 (by decide) (ht _ q541) (fun _ h9 => h9) rfl d_M_init_106 ?_
  refine lv_iload_n hx hb d_M_init_109 rfl (lv_at hl 0 rfl) ?_
  refine lv_iconst (v := (-1)) hx hb d_M_init_110 (by decide) ?_
  refine z_ias hx hb hK hS hAad7 oad7 8 rfl (by decide) (by omega) d_M_init_111 (fun H locs oad7 hz89 ho90 hS => ?_)
  have oa := oa.off ho90 neaad7
  have oad1 := oad1.off ho90 nead1ad7
  have oad4 := oad4.off ho90 nead4ad7
  have oad10 := oad10.off ho90 (Ne.symm nead7ad10)
  have oad13 := oad13.off ho90 (Ne.symm nead7ad13)
  have oad16 := oad16.off ho90 (Ne.symm nead7ad16)
  have oad19 := oad19.off ho90 (Ne.symm nead7ad19)
  have oad22 := oad22.off ho90 (Ne.symm nead7ad22)
  have oad25 := oad25.off ho90 (Ne.symm nead7ad25)
  refine lv_iinc (v := 9) (lv' := [(1, .int 9), (0, .ref a)]) hx hb d_M_init_112 hl (k := 0) rfl (by decide) (by decide) rfl (fun ls hl => ?_)
  refine lv_goto (tgt := 85) hx hb d_M_init_115 (by decide) ?_
  refine lv_iload_n hx hb d_M_init_85 rfl (lv_at hl 0 rfl) ?_
  refine lv_bipush (v := 9) hx hb d_M_init_86 (by decide) ?_
  refine lv_icmp_gt (tgt := 118) hx hb d_M_init_88 (by decide) (fun c91 => absurd c91 (by decide)) (fun _ => ?_)
  refine lv_aload_n hx hb d_M_init_91 rfl (lv_at hl 1 rfl) ?_
  refine va_get (D := D) (ci := 10) (v := .ref ad1) (C := "ValueTreesModel") (T := T_M) (N := 12) hx hb ht in_M hown hK.1 (z_1 oa) 0 rfl rfl 0 (by decide) (ht _ q539) (fun _ h9 => h9) rfl d_M_init_92 ?_
  refine lv_iload_n hx hb d_M_init_95 rfl (lv_at hl 0 rfl) ?_
  refine lv_iload_n hx hb d_M_init_96 rfl (lv_at hl 0 rfl) ?_
  refine z_ias hx hb hK hS hAad1 oad1 9 rfl (by decide) (by omega) d_M_init_97 (fun H locs oad1 hz92 ho93 hS => ?_)
  have oa := oa.off ho93 neaad1
  have oad4 := oad4.off ho93 (Ne.symm nead1ad4)
  have oad7 := oad7.off ho93 (Ne.symm nead1ad7)
  have oad10 := oad10.off ho93 (Ne.symm nead1ad10)
  have oad13 := oad13.off ho93 (Ne.symm nead1ad13)
  have oad16 := oad16.off ho93 (Ne.symm nead1ad16)
  have oad19 := oad19.off ho93 (Ne.symm nead1ad19)
  have oad22 := oad22.off ho93 (Ne.symm nead1ad22)
  have oad25 := oad25.off ho93 (Ne.symm nead1ad25)
  refine lv_aload_n hx hb d_M_init_98 rfl (lv_at hl 1 rfl) ?_
  refine va_get (D := D) (ci := 10) (v := .ref ad4) (C := "ValueTreesModel") (T := T_M) (N := 12) hx hb ht in_M hown hK.1 (z_1 oa) 0 rfl rfl 1 (by decide) (ht _ q540) (fun _ h9 => h9) rfl d_M_init_99 ?_
  refine lv_iload_n hx hb d_M_init_102 rfl (lv_at hl 0 rfl) ?_
  refine lv_iconst (v := (-1)) hx hb d_M_init_103 (by decide) ?_
  refine z_ias hx hb hK hS hAad4 oad4 9 rfl (by decide) (by omega) d_M_init_104 (fun H locs oad4 hz94 ho95 hS => ?_)
  have oa := oa.off ho95 neaad4
  have oad1 := oad1.off ho95 nead1ad4
  have oad7 := oad7.off ho95 (Ne.symm nead4ad7)
  have oad10 := oad10.off ho95 (Ne.symm nead4ad10)
  have oad13 := oad13.off ho95 (Ne.symm nead4ad13)
  have oad16 := oad16.off ho95 (Ne.symm nead4ad16)
  have oad19 := oad19.off ho95 (Ne.symm nead4ad19)
  have oad22 := oad22.off ho95 (Ne.symm nead4ad22)
  have oad25 := oad25.off ho95 (Ne.symm nead4ad25)
  refine lv_aload_n hx hb d_M_init_105 rfl (lv_at hl 1 rfl) ?_
  refine va_get (D := D) (ci := 10) (v := .ref ad7) (C := "ValueTreesModel") (T := T_M) (N := 12) hx hb ht in_M hown hK.1 (z_1 oa) 0 rfl rfl 2 (by decide) (ht _ q541) (fun _ h9 => h9) rfl d_M_init_106 ?_
  refine lv_iload_n hx hb d_M_init_109 rfl (lv_at hl 0 rfl) ?_
  refine lv_iconst (v := (-1)) hx hb d_M_init_110 (by decide) ?_
  refine z_ias hx hb hK hS hAad7 oad7 9 rfl (by decide) (by omega) d_M_init_111 (fun H locs oad7 hz96 ho97 hS => ?_)
  have oa := oa.off ho97 neaad7
  have oad1 := oad1.off ho97 nead1ad7
  have oad4 := oad4.off ho97 nead4ad7
  have oad10 := oad10.off ho97 (Ne.symm nead7ad10)
  have oad13 := oad13.off ho97 (Ne.symm nead7ad13)
  have oad16 := oad16.off ho97 (Ne.symm nead7ad16)
  have oad19 := oad19.off ho97 (Ne.symm nead7ad19)
  have oad22 := oad22.off ho97 (Ne.symm nead7ad22)
  have oad25 := oad25.off ho97 (Ne.symm nead7ad25)
  refine lv_iinc (v := 10) (lv' := [(1, .int 10), (0, .ref a)]) hx hb d_M_init_112 hl (k := 0) rfl (by decide) (by decide) rfl (fun ls hl => ?_)
  refine lv_goto (tgt := 85) hx hb d_M_init_115 (by decide) ?_
  refine lv_iload_n hx hb d_M_init_85 rfl (lv_at hl 0 rfl) ?_
  refine lv_bipush (v := 9) hx hb d_M_init_86 (by decide) ?_
  refine lv_icmp_gt (tgt := 118) hx hb d_M_init_88 (by decide) (fun _ => ?_) (fun c98 => absurd c98 (by decide))
  refine lv_aload_n hx hb d_M_init_118 rfl (lv_at hl 1 rfl) ?_
  refine lv_bipush (v := 10) hx hb d_M_init_119 (by decide) ?_
  refine z_putf (ci := 10) (C := "ValueTreesModel") (T := T_M) (N := 12) hx hb ht in_M ty_M tyk_M nm_M hown hK hS hAa oa rfl 3 (by decide) (ht _ q542) (fun _ h9 => h9) rfl rfl rfl (Nat.le_of_ble_eq_true rfl) d_M_init_121 (fun H locs oa hz99 ho100 hS => ?_)
  have oa : va_at D cls (a, .inr (10, [.ref ad1, .ref ad4, .ref ad7, .int 10, .ref ad10, .ref ad13, .ref ad16, .ref ad19, .int 0, .ref ad22, .int 0, .ref ad25])) H := oa
  have oad1 := oad1.off ho100 (Ne.symm neaad1)
  have oad4 := oad4.off ho100 (Ne.symm neaad4)
  have oad7 := oad7.off ho100 (Ne.symm neaad7)
  have oad10 := oad10.off ho100 (Ne.symm neaad10)
  have oad13 := oad13.off ho100 (Ne.symm neaad13)
  have oad16 := oad16.off ho100 (Ne.symm neaad16)
  have oad19 := oad19.off ho100 (Ne.symm neaad19)
  have oad22 := oad22.off ho100 (Ne.symm neaad22)
  have oad25 := oad25.off ho100 (Ne.symm neaad25)
  refine lv_iconst (v := 0) hx hb d_M_init_124 (by decide) ?_
  refine lv_istore_n (lv' := [(1, .int 0), (0, .ref a)]) hx hb d_M_init_125 rfl hl (by decide) rfl (fun ls hl => ?_)
  refine lv_iload_n hx hb d_M_init_126 rfl (lv_at hl 0 rfl) ?_
  refine lv_bipush (v := 16) hx hb d_M_init_127 (by decide) ?_
  refine lv_icmp_ge (tgt := 145) hx hb d_M_init_129 (by decide) (fun c101 => absurd c101 (by decide)) (fun _ => ?_)
  refine lv_aload_n hx hb d_M_init_132 rfl (lv_at hl 1 rfl) ?_
  refine va_get (D := D) (ci := 10) (v := .ref ad10) (C := "ValueTreesModel") (T := T_M) (N := 12) hx hb ht in_M hown hK.1 (z_1 oa) 0 rfl rfl 4 (by decide) (ht _ q543) (fun _ h9 => h9) rfl d_M_init_133 ?_
  refine lv_iload_n hx hb d_M_init_136 rfl (lv_at hl 0 rfl) ?_
  refine lv_iconst (v := (-1)) hx hb d_M_init_137 (by decide) ?_
  refine z_ias hx hb hK hS hAad10 oad10 0 rfl (by decide) (by omega) d_M_init_138 (fun H locs oad10 hz102 ho103 hS => ?_)
  have oa := oa.off ho103 neaad10
  have oad1 := oad1.off ho103 nead1ad10
  have oad4 := oad4.off ho103 nead4ad10
  have oad7 := oad7.off ho103 nead7ad10
  have oad13 := oad13.off ho103 (Ne.symm nead10ad13)
  have oad16 := oad16.off ho103 (Ne.symm nead10ad16)
  have oad19 := oad19.off ho103 (Ne.symm nead10ad19)
  have oad22 := oad22.off ho103 (Ne.symm nead10ad22)
  have oad25 := oad25.off ho103 (Ne.symm nead10ad25)
  refine lv_iinc (v := 1) (lv' := [(1, .int 1), (0, .ref a)]) hx hb d_M_init_139 hl (k := 0) rfl (by decide) (by decide) rfl (fun ls hl => ?_)
  refine lv_goto (tgt := 126) hx hb d_M_init_142 (by decide) ?_
  refine lv_iload_n hx hb d_M_init_126 rfl (lv_at hl 0 rfl) ?_
  refine lv_bipush (v := 16) hx hb d_M_init_127 (by decide) ?_
  refine lv_icmp_ge (tgt := 145) hx hb d_M_init_129 (by decide) (fun c104 => absurd c104 (by decide)) (fun _ => ?_)
  refine lv_aload_n hx hb d_M_init_132 rfl (lv_at hl 1 rfl) ?_
  refine va_get (D := D) (ci := 10) (v := .ref ad10) (C := "ValueTreesModel") (T := T_M) (N := 12) hx hb ht in_M hown hK.1 (z_1 oa) 0 rfl rfl 4 (by decide) (ht _ q543) (fun _ h9 => h9) rfl d_M_init_133 ?_
  refine lv_iload_n hx hb d_M_init_136 rfl (lv_at hl 0 rfl) ?_
  refine lv_iconst (v := (-1)) hx hb d_M_init_137 (by decide) ?_
  refine z_ias hx hb hK hS hAad10 oad10 1 rfl (by decide) (by omega) d_M_init_138 (fun H locs oad10 hz105 ho106 hS => ?_)
  have oa := oa.off ho106 neaad10
  have oad1 := oad1.off ho106 nead1ad10
  have oad4 := oad4.off ho106 nead4ad10
  have oad7 := oad7.off ho106 nead7ad10
  have oad13 := oad13.off ho106 (Ne.symm nead10ad13)
  have oad16 := oad16.off ho106 (Ne.symm nead10ad16)
  have oad19 := oad19.off ho106 (Ne.symm nead10ad19)
  have oad22 := oad22.off ho106 (Ne.symm nead10ad22)
  have oad25 := oad25.off ho106 (Ne.symm nead10ad25)
  refine lv_iinc (v := 2) (lv' := [(1, .int 2), (0, .ref a)]) hx hb d_M_init_139 hl (k := 0) rfl (by decide) (by decide) rfl (fun ls hl => ?_)
  refine lv_goto (tgt := 126) hx hb d_M_init_142 (by decide) ?_
  refine lv_iload_n hx hb d_M_init_126 rfl (lv_at hl 0 rfl) ?_
  refine lv_bipush (v := 16) hx hb d_M_init_127 (by decide) ?_
  refine lv_icmp_ge (tgt := 145) hx hb d_M_init_129 (by decide) (fun c107 => absurd c107 (by decide)) (fun _ => ?_)
  refine lv_aload_n hx hb d_M_init_132 rfl (lv_at hl 1 rfl) ?_
  refine va_get (D := D) (ci := 10) (v := .ref ad10) (C := "ValueTreesModel") (T := T_M) (N := 12) hx hb ht in_M hown hK.1 (z_1 oa) 0 rfl rfl 4 (by decide) (ht _ q543) (fun _ h9 => h9) rfl d_M_init_133 ?_
  refine lv_iload_n hx hb d_M_init_136 rfl (lv_at hl 0 rfl) ?_
  refine lv_iconst (v := (-1)) hx hb d_M_init_137 (by decide) ?_
  refine z_ias hx hb hK hS hAad10 oad10 2 rfl (by decide) (by omega) d_M_init_138 (fun H locs oad10 hz108 ho109 hS => ?_)
  have oa := oa.off ho109 neaad10
  have oad1 := oad1.off ho109 nead1ad10
  have oad4 := oad4.off ho109 nead4ad10
  have oad7 := oad7.off ho109 nead7ad10
  have oad13 := oad13.off ho109 (Ne.symm nead10ad13)
  have oad16 := oad16.off ho109 (Ne.symm nead10ad16)
  have oad19 := oad19.off ho109 (Ne.symm nead10ad19)
  have oad22 := oad22.off ho109 (Ne.symm nead10ad22)
  have oad25 := oad25.off ho109 (Ne.symm nead10ad25)
  refine lv_iinc (v := 3) (lv' := [(1, .int 3), (0, .ref a)]) hx hb d_M_init_139 hl (k := 0) rfl (by decide) (by decide) rfl (fun ls hl => ?_)
  refine lv_goto (tgt := 126) hx hb d_M_init_142 (by decide) ?_
  refine lv_iload_n hx hb d_M_init_126 rfl (lv_at hl 0 rfl) ?_
  refine lv_bipush (v := 16) hx hb d_M_init_127 (by decide) ?_
  refine lv_icmp_ge (tgt := 145) hx hb d_M_init_129 (by decide) (fun c110 => absurd c110 (by decide)) (fun _ => ?_)
  refine lv_aload_n hx hb d_M_init_132 rfl (lv_at hl 1 rfl) ?_
  refine va_get (D := D) (ci := 10) (v := .ref ad10) (C := "ValueTreesModel") (T := T_M) (N := 12) hx hb ht in_M hown hK.1 (z_1 oa) 0 rfl rfl 4 (by decide) (ht _ q543) (fun _ h9 => h9) rfl d_M_init_133 ?_
  refine lv_iload_n hx hb d_M_init_136 rfl (lv_at hl 0 rfl) ?_
  refine lv_iconst (v := (-1)) hx hb d_M_init_137 (by decide) ?_
  refine z_ias hx hb hK hS hAad10 oad10 3 rfl (by decide) (by omega) d_M_init_138 (fun H locs oad10 hz111 ho112 hS => ?_)
  have oa := oa.off ho112 neaad10
  have oad1 := oad1.off ho112 nead1ad10
  have oad4 := oad4.off ho112 nead4ad10
  have oad7 := oad7.off ho112 nead7ad10
  have oad13 := oad13.off ho112 (Ne.symm nead10ad13)
  have oad16 := oad16.off ho112 (Ne.symm nead10ad16)
  have oad19 := oad19.off ho112 (Ne.symm nead10ad19)
  have oad22 := oad22.off ho112 (Ne.symm nead10ad22)
  have oad25 := oad25.off ho112 (Ne.symm nead10ad25)
  refine lv_iinc (v := 4) (lv' := [(1, .int 4), (0, .ref a)]) hx hb d_M_init_139 hl (k := 0) rfl (by decide) (by decide) rfl (fun ls hl => ?_)
  refine lv_goto (tgt := 126) hx hb d_M_init_142 (by decide) ?_
  refine lv_iload_n hx hb d_M_init_126 rfl (lv_at hl 0 rfl) ?_
  refine lv_bipush (v := 16) hx hb d_M_init_127 (by decide) ?_
  refine lv_icmp_ge (tgt := 145) hx hb d_M_init_129 (by decide) (fun c113 => absurd c113 (by decide)) (fun _ => ?_)
  refine lv_aload_n hx hb d_M_init_132 rfl (lv_at hl 1 rfl) ?_
  refine va_get (D := D) (ci := 10) (v := .ref ad10) (C := "ValueTreesModel") (T := T_M) (N := 12) hx hb ht in_M hown hK.1 (z_1 oa) 0 rfl rfl 4 (by decide) (ht _ q543) (fun _ h9 => h9) rfl d_M_init_133 ?_
  refine lv_iload_n hx hb d_M_init_136 rfl (lv_at hl 0 rfl) ?_
  refine lv_iconst (v := (-1)) hx hb d_M_init_137 (by decide) ?_
  refine z_ias hx hb hK hS hAad10 oad10 4 rfl (by decide) (by omega) d_M_init_138 (fun H locs oad10 hz114 ho115 hS => ?_)
  have oa := oa.off ho115 neaad10
  have oad1 := oad1.off ho115 nead1ad10
  have oad4 := oad4.off ho115 nead4ad10
  have oad7 := oad7.off ho115 nead7ad10
  have oad13 := oad13.off ho115 (Ne.symm nead10ad13)
  have oad16 := oad16.off ho115 (Ne.symm nead10ad16)
  have oad19 := oad19.off ho115 (Ne.symm nead10ad19)
  have oad22 := oad22.off ho115 (Ne.symm nead10ad22)
  have oad25 := oad25.off ho115 (Ne.symm nead10ad25)
  refine lv_iinc (v := 5) (lv' := [(1, .int 5), (0, .ref a)]) hx hb d_M_init_139 hl (k := 0) rfl (by decide) (by decide) rfl (fun ls hl => ?_)
  refine lv_goto (tgt := 126) hx hb d_M_init_142 (by decide) ?_
  refine lv_iload_n hx hb d_M_init_126 rfl (lv_at hl 0 rfl) ?_
  refine lv_bipush (v := 16) hx hb d_M_init_127 (by decide) ?_
  refine lv_icmp_ge (tgt := 145) hx hb d_M_init_129 (by decide) (fun c116 => absurd c116 (by decide)) (fun _ => ?_)
  refine lv_aload_n hx hb d_M_init_132 rfl (lv_at hl 1 rfl) ?_
  refine va_get (D := D) (ci := 10) (v := .ref ad10) (C := "ValueTreesModel") (T := T_M) (N := 12) hx hb ht in_M hown hK.1 (z_1 oa) 0 rfl rfl 4 (by decide) (ht _ q543) (fun _ h9 => h9) rfl d_M_init_133 ?_
  refine lv_iload_n hx hb d_M_init_136 rfl (lv_at hl 0 rfl) ?_
  refine lv_iconst (v := (-1)) hx hb d_M_init_137 (by decide) ?_
  refine z_ias hx hb hK hS hAad10 oad10 5 rfl (by decide) (by omega) d_M_init_138 (fun H locs oad10 hz117 ho118 hS => ?_)
  have oa := oa.off ho118 neaad10
  have oad1 := oad1.off ho118 nead1ad10
  have oad4 := oad4.off ho118 nead4ad10
  have oad7 := oad7.off ho118 nead7ad10
  have oad13 := oad13.off ho118 (Ne.symm nead10ad13)
  have oad16 := oad16.off ho118 (Ne.symm nead10ad16)
  have oad19 := oad19.off ho118 (Ne.symm nead10ad19)
  have oad22 := oad22.off ho118 (Ne.symm nead10ad22)
  have oad25 := oad25.off ho118 (Ne.symm nead10ad25)
  refine lv_iinc (v := 6) (lv' := [(1, .int 6), (0, .ref a)]) hx hb d_M_init_139 hl (k := 0) rfl (by decide) (by decide) rfl (fun ls hl => ?_)
  refine lv_goto (tgt := 126) hx hb d_M_init_142 (by decide) ?_
  refine lv_iload_n hx hb d_M_init_126 rfl (lv_at hl 0 rfl) ?_
  refine lv_bipush (v := 16) hx hb d_M_init_127 (by decide) ?_
  refine lv_icmp_ge (tgt := 145) hx hb d_M_init_129 (by decide) (fun c119 => absurd c119 (by decide)) (fun _ => ?_)
  refine lv_aload_n hx hb d_M_init_132 rfl (lv_at hl 1 rfl) ?_
  refine va_get (D := D) (ci := 10) (v := .ref ad10) (C := "ValueTreesModel") (T := T_M) (N := 12) hx hb ht in_M hown hK.1 (z_1 oa) 0 rfl rfl 4 (by decide) (ht _ q543) (fun _ h9 => h9) rfl d_M_init_133 ?_
  refine lv_iload_n hx hb d_M_init_136 rfl (lv_at hl 0 rfl) ?_
  refine lv_iconst (v := (-1)) hx hb d_M_init_137 (by decide) ?_
  refine z_ias hx hb hK hS hAad10 oad10 6 rfl (by decide) (by omega) d_M_init_138 (fun H locs oad10 hz120 ho121 hS => ?_)
  have oa := oa.off ho121 neaad10
  have oad1 := oad1.off ho121 nead1ad10
  have oad4 := oad4.off ho121 nead4ad10
  have oad7 := oad7.off ho121 nead7ad10
  have oad13 := oad13.off ho121 (Ne.symm nead10ad13)
  have oad16 := oad16.off ho121 (Ne.symm nead10ad16)
  have oad19 := oad19.off ho121 (Ne.symm nead10ad19)
  have oad22 := oad22.off ho121 (Ne.symm nead10ad22)
  have oad25 := oad25.off ho121 (Ne.symm nead10ad25)
  refine lv_iinc (v := 7) (lv' := [(1, .int 7), (0, .ref a)]) hx hb d_M_init_139 hl (k := 0) rfl (by decide) (by decide) rfl (fun ls hl => ?_)
  refine lv_goto (tgt := 126) hx hb d_M_init_142 (by decide) ?_
  refine lv_iload_n hx hb d_M_init_126 rfl (lv_at hl 0 rfl) ?_
  refine lv_bipush (v := 16) hx hb d_M_init_127 (by decide) ?_
  refine lv_icmp_ge (tgt := 145) hx hb d_M_init_129 (by decide) (fun c122 => absurd c122 (by decide)) (fun _ => ?_)
  refine lv_aload_n hx hb d_M_init_132 rfl (lv_at hl 1 rfl) ?_
  refine va_get (D := D) (ci := 10) (v := .ref ad10) (C := "ValueTreesModel") (T := T_M) (N := 12) hx hb ht in_M hown hK.1 (z_1 oa) 0 rfl rfl 4 (by decide) (ht _ q543) (fun _ h9 => h9) rfl d_M_init_133 ?_
  refine lv_iload_n hx hb d_M_init_136 rfl (lv_at hl 0 rfl) ?_
  refine lv_iconst (v := (-1)) hx hb d_M_init_137 (by decide) ?_
  refine z_ias hx hb hK hS hAad10 oad10 7 rfl (by decide) (by omega) d_M_init_138 (fun H locs oad10 hz123 ho124 hS => ?_)
  have oa := oa.off ho124 neaad10
  have oad1 := oad1.off ho124 nead1ad10
  have oad4 := oad4.off ho124 nead4ad10
  have oad7 := oad7.off ho124 nead7ad10
  have oad13 := oad13.off ho124 (Ne.symm nead10ad13)
  have oad16 := oad16.off ho124 (Ne.symm nead10ad16)
  have oad19 := oad19.off ho124 (Ne.symm nead10ad19)
  have oad22 := oad22.off ho124 (Ne.symm nead10ad22)
  have oad25 := oad25.off ho124 (Ne.symm nead10ad25)
  refine lv_iinc (v := 8) (lv' := [(1, .int 8), (0, .ref a)]) hx hb d_M_init_139 hl (k := 0) rfl (by decide) (by decide) rfl (fun ls hl => ?_)
  refine lv_goto (tgt := 126) hx hb d_M_init_142 (by decide) ?_
  refine lv_iload_n hx hb d_M_init_126 rfl (lv_at hl 0 rfl) ?_
  refine lv_bipush (v := 16) hx hb d_M_init_127 (by decide) ?_
  refine lv_icmp_ge (tgt := 145) hx hb d_M_init_129 (by decide) (fun c125 => absurd c125 (by decide)) (fun _ => ?_)
  refine lv_aload_n hx hb d_M_init_132 rfl (lv_at hl 1 rfl) ?_
  refine va_get (D := D) (ci := 10) (v := .ref ad10) (C := "ValueTreesModel") (T := T_M) (N := 12) hx hb ht in_M hown hK.1 (z_1 oa) 0 rfl rfl 4 (by decide) (ht _ q543) (fun _ h9 => h9) rfl d_M_init_133 ?_
  refine lv_iload_n hx hb d_M_init_136 rfl (lv_at hl 0 rfl) ?_
  refine lv_iconst (v := (-1)) hx hb d_M_init_137 (by decide) ?_
  refine z_ias hx hb hK hS hAad10 oad10 8 rfl (by decide) (by omega) d_M_init_138 (fun H locs oad10 hz126 ho127 hS => ?_)
  have oa := oa.off ho127 neaad10
  have oad1 := oad1.off ho127 nead1ad10
  have oad4 := oad4.off ho127 nead4ad10
  have oad7 := oad7.off ho127 nead7ad10
  have oad13 := oad13.off ho127 (Ne.symm nead10ad13)
  have oad16 := oad16.off ho127 (Ne.symm nead10ad16)
  have oad19 := oad19.off ho127 (Ne.symm nead10ad19)
  have oad22 := oad22.off ho127 (Ne.symm nead10ad22)
  have oad25 := oad25.off ho127 (Ne.symm nead10ad25)
  refine lv_iinc (v := 9) (lv' := [(1, .int 9), (0, .ref a)]) hx hb d_M_init_139 hl (k := 0) rfl (by decide) (by decide) rfl (fun ls hl => ?_)
  refine lv_goto (tgt := 126) hx hb d_M_init_142 (by decide) ?_
  refine lv_iload_n hx hb d_M_init_126 rfl (lv_at hl 0 rfl) ?_
  refine lv_bipush (v := 16) hx hb d_M_init_127 (by decide) ?_
  refine lv_icmp_ge (tgt := 145) hx hb d_M_init_129 (by decide) (fun c128 => absurd c128 (by decide)) (fun _ => ?_)
  refine lv_aload_n hx hb d_M_init_132 rfl (lv_at hl 1 rfl) ?_
  refine va_get (D := D) (ci := 10) (v := .ref ad10) (C := "ValueTreesModel") (T := T_M) (N := 12) hx hb ht in_M hown hK.1 (z_1 oa) 0 rfl rfl 4 (by decide) (ht _ q543) (fun _ h9 => h9) rfl d_M_init_133 ?_
  refine lv_iload_n hx hb d_M_init_136 rfl (lv_at hl 0 rfl) ?_
  refine lv_iconst (v := (-1)) hx hb d_M_init_137 (by decide) ?_
  refine z_ias hx hb hK hS hAad10 oad10 9 rfl (by decide) (by omega) d_M_init_138 (fun H locs oad10 hz129 ho130 hS => ?_)
  have oa := oa.off ho130 neaad10
  have oad1 := oad1.off ho130 nead1ad10
  have oad4 := oad4.off ho130 nead4ad10
  have oad7 := oad7.off ho130 nead7ad10
  have oad13 := oad13.off ho130 (Ne.symm nead10ad13)
  have oad16 := oad16.off ho130 (Ne.symm nead10ad16)
  have oad19 := oad19.off ho130 (Ne.symm nead10ad19)
  have oad22 := oad22.off ho130 (Ne.symm nead10ad22)
  have oad25 := oad25.off ho130 (Ne.symm nead10ad25)
  refine lv_iinc (v := 10) (lv' := [(1, .int 10), (0, .ref a)]) hx hb d_M_init_139 hl (k := 0) rfl (by decide) (by decide) rfl (fun ls hl => ?_)
  refine lv_goto (tgt := 126) hx hb d_M_init_142 (by decide) ?_
  refine lv_iload_n hx hb d_M_init_126 rfl (lv_at hl 0 rfl) ?_
  refine lv_bipush (v := 16) hx hb d_M_init_127 (by decide) ?_
  refine lv_icmp_ge (tgt := 145) hx hb d_M_init_129 (by decide) (fun c131 => absurd c131 (by decide)) (fun _ => ?_)
  refine lv_aload_n hx hb d_M_init_132 rfl (lv_at hl 1 rfl) ?_
  refine va_get (D := D) (ci := 10) (v := .ref ad10) (C := "ValueTreesModel") (T := T_M) (N := 12) hx hb ht in_M hown hK.1 (z_1 oa) 0 rfl rfl 4 (by decide) (ht _ q543) (fun _ h9 => h9) rfl d_M_init_133 ?_
  refine lv_iload_n hx hb d_M_init_136 rfl (lv_at hl 0 rfl) ?_
  refine lv_iconst (v := (-1)) hx hb d_M_init_137 (by decide) ?_
  refine z_ias hx hb hK hS hAad10 oad10 10 rfl (by decide) (by omega) d_M_init_138 (fun H locs oad10 hz132 ho133 hS => ?_)
  have oa := oa.off ho133 neaad10
  have oad1 := oad1.off ho133 nead1ad10
  have oad4 := oad4.off ho133 nead4ad10
  have oad7 := oad7.off ho133 nead7ad10
  have oad13 := oad13.off ho133 (Ne.symm nead10ad13)
  have oad16 := oad16.off ho133 (Ne.symm nead10ad16)
  have oad19 := oad19.off ho133 (Ne.symm nead10ad19)
  have oad22 := oad22.off ho133 (Ne.symm nead10ad22)
  have oad25 := oad25.off ho133 (Ne.symm nead10ad25)
  refine lv_iinc (v := 11) (lv' := [(1, .int 11), (0, .ref a)]) hx hb d_M_init_139 hl (k := 0) rfl (by decide) (by decide) rfl (fun ls hl => ?_)
  refine lv_goto (tgt := 126) hx hb d_M_init_142 (by decide) ?_
  refine lv_iload_n hx hb d_M_init_126 rfl (lv_at hl 0 rfl) ?_
  refine lv_bipush (v := 16) hx hb d_M_init_127 (by decide) ?_
  refine lv_icmp_ge (tgt := 145) hx hb d_M_init_129 (by decide) (fun c134 => absurd c134 (by decide)) (fun _ => ?_)
  refine lv_aload_n hx hb d_M_init_132 rfl (lv_at hl 1 rfl) ?_
  refine va_get (D := D) (ci := 10) (v := .ref ad10) (C := "ValueTreesModel") (T := T_M) (N := 12) hx hb ht in_M hown hK.1 (z_1 oa) 0 rfl rfl 4 (by decide) (ht _ q543) (fun _ h9 => h9) rfl d_M_init_133 ?_
  refine lv_iload_n hx hb d_M_init_136 rfl (lv_at hl 0 rfl) ?_
  refine lv_iconst (v := (-1)) hx hb d_M_init_137 (by decide) ?_
  refine z_ias hx hb hK hS hAad10 oad10 11 rfl (by decide) (by omega) d_M_init_138 (fun H locs oad10 hz135 ho136 hS => ?_)
  have oa := oa.off ho136 neaad10
  have oad1 := oad1.off ho136 nead1ad10
  have oad4 := oad4.off ho136 nead4ad10
  have oad7 := oad7.off ho136 nead7ad10
  have oad13 := oad13.off ho136 (Ne.symm nead10ad13)
  have oad16 := oad16.off ho136 (Ne.symm nead10ad16)
  have oad19 := oad19.off ho136 (Ne.symm nead10ad19)
  have oad22 := oad22.off ho136 (Ne.symm nead10ad22)
  have oad25 := oad25.off ho136 (Ne.symm nead10ad25)
  refine lv_iinc (v := 12) (lv' := [(1, .int 12), (0, .ref a)]) hx hb d_M_init_139 hl (k := 0) rfl (by decide) (by decide) rfl (fun ls hl => ?_)
  refine lv_goto (tgt := 126) hx hb d_M_init_142 (by decide) ?_
  refine lv_iload_n hx hb d_M_init_126 rfl (lv_at hl 0 rfl) ?_
  refine lv_bipush (v := 16) hx hb d_M_init_127 (by decide) ?_
  refine lv_icmp_ge (tgt := 145) hx hb d_M_init_129 (by decide) (fun c137 => absurd c137 (by decide)) (fun _ => ?_)
  refine lv_aload_n hx hb d_M_init_132 rfl (lv_at hl 1 rfl) ?_
  refine va_get (D := D) (ci := 10) (v := .ref ad10) (C := "ValueTreesModel") (T := T_M) (N := 12) hx hb ht in_M hown hK.1 (z_1 oa) 0 rfl rfl 4 (by decide) (ht _ q543) (fun _ h9 => h9) rfl d_M_init_133 ?_
  refine lv_iload_n hx hb d_M_init_136 rfl (lv_at hl 0 rfl) ?_
  refine lv_iconst (v := (-1)) hx hb d_M_init_137 (by decide) ?_
  refine z_ias hx hb hK hS hAad10 oad10 12 rfl (by decide) (by omega) d_M_init_138 (fun H locs oad10 hz138 ho139 hS => ?_)
  have oa := oa.off ho139 neaad10
  have oad1 := oad1.off ho139 nead1ad10
  have oad4 := oad4.off ho139 nead4ad10
  have oad7 := oad7.off ho139 nead7ad10
  have oad13 := oad13.off ho139 (Ne.symm nead10ad13)
  have oad16 := oad16.off ho139 (Ne.symm nead10ad16)
  have oad19 := oad19.off ho139 (Ne.symm nead10ad19)
  have oad22 := oad22.off ho139 (Ne.symm nead10ad22)
  have oad25 := oad25.off ho139 (Ne.symm nead10ad25)
  refine lv_iinc (v := 13) (lv' := [(1, .int 13), (0, .ref a)]) hx hb d_M_init_139 hl (k := 0) rfl (by decide) (by decide) rfl (fun ls hl => ?_)
  refine lv_goto (tgt := 126) hx hb d_M_init_142 (by decide) ?_
  refine lv_iload_n hx hb d_M_init_126 rfl (lv_at hl 0 rfl) ?_
  refine lv_bipush (v := 16) hx hb d_M_init_127 (by decide) ?_
  refine lv_icmp_ge (tgt := 145) hx hb d_M_init_129 (by decide) (fun c140 => absurd c140 (by decide)) (fun _ => ?_)
  refine lv_aload_n hx hb d_M_init_132 rfl (lv_at hl 1 rfl) ?_
  refine va_get (D := D) (ci := 10) (v := .ref ad10) (C := "ValueTreesModel") (T := T_M) (N := 12) hx hb ht in_M hown hK.1 (z_1 oa) 0 rfl rfl 4 (by decide) (ht _ q543) (fun _ h9 => h9) rfl d_M_init_133 ?_
  refine lv_iload_n hx hb d_M_init_136 rfl (lv_at hl 0 rfl) ?_
  refine lv_iconst (v := (-1)) hx hb d_M_init_137 (by decide) ?_
  refine z_ias hx hb hK hS hAad10 oad10 13 rfl (by decide) (by omega) d_M_init_138 (fun H locs oad10 hz141 ho142 hS => ?_)
  have oa := oa.off ho142 neaad10
  have oad1 := oad1.off ho142 nead1ad10
  have oad4 := oad4.off ho142 nead4ad10
  have oad7 := oad7.off ho142 nead7ad10
  have oad13 := oad13.off ho142 (Ne.symm nead10ad13)
  have oad16 := oad16.off ho142 (Ne.symm nead10ad16)
  have oad19 := oad19.off ho142 (Ne.symm nead10ad19)
  have oad22 := oad22.off ho142 (Ne.symm nead10ad22)
  have oad25 := oad25.off ho142 (Ne.symm nead10ad25)
  refine lv_iinc (v := 14) (lv' := [(1, .int 14), (0, .ref a)]) hx hb d_M_init_139 hl (k := 0) rfl (by decide) (by decide) rfl (fun ls hl => ?_)
  refine lv_goto (tgt := 126) hx hb d_M_init_142 (by decide) ?_
  refine lv_iload_n hx hb d_M_init_126 rfl (lv_at hl 0 rfl) ?_
  refine lv_bipush (v := 16) hx hb d_M_init_127 (by decide) ?_
  refine lv_icmp_ge (tgt := 145) hx hb d_M_init_129 (by decide) (fun c143 => absurd c143 (by decide)) (fun _ => ?_)
  refine lv_aload_n hx hb d_M_init_132 rfl (lv_at hl 1 rfl) ?_
  refine va_get (D := D) (ci := 10) (v := .ref ad10) (C := "ValueTreesModel") (T := T_M) (N := 12) hx hb ht in_M hown hK.1 (z_1 oa) 0 rfl rfl 4 (by decide) (ht _ q543) (fun _ h9 => h9) rfl d_M_init_133 ?_
  refine lv_iload_n hx hb d_M_init_136 rfl (lv_at hl 0 rfl) ?_
  refine lv_iconst (v := (-1)) hx hb d_M_init_137 (by decide) ?_
  refine z_ias hx hb hK hS hAad10 oad10 14 rfl (by decide) (by omega) d_M_init_138 (fun H locs oad10 hz144 ho145 hS => ?_)
  have oa := oa.off ho145 neaad10
  have oad1 := oad1.off ho145 nead1ad10
  have oad4 := oad4.off ho145 nead4ad10
  have oad7 := oad7.off ho145 nead7ad10
  have oad13 := oad13.off ho145 (Ne.symm nead10ad13)
  have oad16 := oad16.off ho145 (Ne.symm nead10ad16)
  have oad19 := oad19.off ho145 (Ne.symm nead10ad19)
  have oad22 := oad22.off ho145 (Ne.symm nead10ad22)
  have oad25 := oad25.off ho145 (Ne.symm nead10ad25)
  refine lv_iinc (v := 15) (lv' := [(1, .int 15), (0, .ref a)]) hx hb d_M_init_139 hl (k := 0) rfl (by decide) (by decide) rfl (fun ls hl => ?_)
  refine lv_goto (tgt := 126) hx hb d_M_init_142 (by decide) ?_
  refine lv_iload_n hx hb d_M_init_126 rfl (lv_at hl 0 rfl) ?_
  refine lv_bipush (v := 16) hx hb d_M_init_127 (by decide) ?_
  refine lv_icmp_ge (tgt := 145) hx hb d_M_init_129 (by decide) (fun c146 => absurd c146 (by decide)) (fun _ => ?_)
  refine lv_aload_n hx hb d_M_init_132 rfl (lv_at hl 1 rfl) ?_
  refine va_get (D := D) (ci := 10) (v := .ref ad10) (C := "ValueTreesModel") (T := T_M) (N := 12) hx hb ht in_M hown hK.1 (z_1 oa) 0 rfl rfl 4 (by decide) (ht _ q543) (fun _ h9 => h9) rfl d_M_init_133 ?_
  refine lv_iload_n hx hb d_M_init_136 rfl (lv_at hl 0 rfl) ?_
  refine lv_iconst (v := (-1)) hx hb d_M_init_137 (by decide) ?_
  refine z_ias hx hb hK hS hAad10 oad10 15 rfl (by decide) (by omega) d_M_init_138 (fun H locs oad10 hz147 ho148 hS => ?_)
  have oa := oa.off ho148 neaad10
  have oad1 := oad1.off ho148 nead1ad10
  have oad4 := oad4.off ho148 nead4ad10
  have oad7 := oad7.off ho148 nead7ad10
  have oad13 := oad13.off ho148 (Ne.symm nead10ad13)
  have oad16 := oad16.off ho148 (Ne.symm nead10ad16)
  have oad19 := oad19.off ho148 (Ne.symm nead10ad19)
  have oad22 := oad22.off ho148 (Ne.symm nead10ad22)
  have oad25 := oad25.off ho148 (Ne.symm nead10ad25)
  refine lv_iinc (v := 16) (lv' := [(1, .int 16), (0, .ref a)]) hx hb d_M_init_139 hl (k := 0) rfl (by decide) (by decide) rfl (fun ls hl => ?_)
  refine lv_goto (tgt := 126) hx hb d_M_init_142 (by decide) ?_
  refine lv_iload_n hx hb d_M_init_126 rfl (lv_at hl 0 rfl) ?_
  refine lv_bipush (v := 16) hx hb d_M_init_127 (by decide) ?_
  refine lv_icmp_ge (tgt := 145) hx hb d_M_init_129 (by decide) (fun _ => ?_) (fun c149 => absurd c149 (by decide))
  refine z_vretQ hx hb hr hlocks d_M_init_145 hS (Nat.le_of_ble_eq_true rfl) (Nat.le_of_ble_eq_true rfl) ?_
  refine ⟨rfl, m10 a ad1 ad4 ad7 ad10 ad13 ad16 ad19 ad22 ad25, rfl, M_fin oa oad1 oad4 oad7 oad10 oad13 oad16 oad19 oad22 oad25 lt0 lt1 lt2 lt3 lt4 lt5 lt6 lt7 lt8 (fun t ht => ?_) (fun j hj => ?_), m10_ge hgad1 lt1 lt2 lt3 lt4 lt5 lt6 lt7 lt8⟩
  · have hc : t = 0 ∨ t = 1 ∨ t = 2 ∨ t = 3 ∨ t = 4 ∨ t = 5 ∨ t = 6 ∨ t = 7 ∨ t = 8 ∨ t = 9 := by omega
    rcases hc with rfl | rfl | rfl | rfl | rfl | rfl | rfl | rfl | rfl | rfl <;> exact ⟨rfl, rfl, rfl⟩
  · have hc : j = 0 ∨ j = 1 ∨ j = 2 ∨ j = 3 ∨ j = 4 ∨ j = 5 ∨ j = 6 ∨ j = 7 ∨ j = 8 ∨ j = 9 ∨ j = 10 ∨ j = 11 ∨ j = 12 ∨ j = 13 ∨ j = 14 ∨ j = 15 := by omega
    rcases hc with rfl | rfl | rfl | rfl | rfl | rfl | rfl | rfl | rfl | rfl | rfl | rfl | rfl | rfl | rfl | rfl <;> rfl
