abbrev b_V_init : ByteArray := prog_1_method_1_code
abbrev y_V_init : MethodName := ⟨"ValueTrees", "<init>", "()V"⟩
abbrev w_V_init : List Cond := .code y_V_init b_V_init 2 (Option.none : Option FieldType) :: gt
theorem hd_V_init : (y_V_init).cls ≠ "java/lang/invoke/MethodHandle" ∧ (y_V_init).cls ≠ "java/lang/invoke/VarHandle" ∧ (parseMethodDescriptor (y_V_init).desc).map (fun d => d.parameters.length) = some 0 := by decide +kernel
theorem d_V_init_0 : decode b_V_init 0 = .ok (.aload_n 0, 1) := by decide +kernel
theorem d_V_init_1 : decode b_V_init 1 = .ok (.invokespecial 1, 3) := by decide +kernel
theorem d_V_init_4 : decode b_V_init 4 = .ok (.aload_n 0, 1) := by decide +kernel
theorem d_V_init_5 : decode b_V_init 5 = .ok (.new 7, 3) := by decide +kernel
theorem d_V_init_8 : decode b_V_init 8 = .ok (.dup, 1) := by decide +kernel
theorem d_V_init_9 : decode b_V_init 9 = .ok (.invokespecial 9, 3) := by decide +kernel
theorem d_V_init_12 : decode b_V_init 12 = .ok (.putfield 10, 3) := by decide +kernel
theorem d_V_init_15 : decode b_V_init 15 = .ok (.iconst 0, 1) := by decide +kernel
theorem d_V_init_16 : decode b_V_init 16 = .ok (.istore_n 1, 1) := by decide +kernel
theorem d_V_init_17 : decode b_V_init 17 = .ok (.iload_n 1, 1) := by decide +kernel
theorem d_V_init_18 : decode b_V_init 18 = .ok (.bipush 9, 2) := by decide +kernel
theorem d_V_init_20 : decode b_V_init 20 = .ok (.if_icmp .gt 36, 3) := by decide +kernel
theorem d_V_init_23 : decode b_V_init 23 = .ok (.aload_n 0, 1) := by decide +kernel
theorem d_V_init_24 : decode b_V_init 24 = .ok (.getfield 10, 3) := by decide +kernel
theorem d_V_init_27 : decode b_V_init 27 = .ok (.new 16, 3) := by decide +kernel
theorem d_V_init_30 : decode b_V_init 30 = .ok (.dup, 1) := by decide +kernel
theorem d_V_init_31 : decode b_V_init 31 = .ok (.iload_n 1, 1) := by decide +kernel
theorem d_V_init_32 : decode b_V_init 32 = .ok (.iconst (-1), 1) := by decide +kernel
theorem d_V_init_33 : decode b_V_init 33 = .ok (.iconst (-1), 1) := by decide +kernel
theorem d_V_init_34 : decode b_V_init 34 = .ok (.iconst 1, 1) := by decide +kernel
theorem d_V_init_35 : decode b_V_init 35 = .ok (.iload_n 1, 1) := by decide +kernel
theorem d_V_init_36 : decode b_V_init 36 = .ok (.bipush 7, 2) := by decide +kernel
theorem d_V_init_38 : decode b_V_init 38 = .ok (.bipush 7, 2) := by decide +kernel
theorem d_V_init_40 : decode b_V_init 40 = .ok (.invokestatic 18, 3) := by decide +kernel
theorem d_V_init_43 : decode b_V_init 43 = .ok (.invokespecial 22, 3) := by decide +kernel
theorem d_V_init_46 : decode b_V_init 46 = .ok (.invokevirtual 25, 3) := by decide +kernel
theorem d_V_init_49 : decode b_V_init 49 = .ok (.pop, 1) := by decide +kernel
theorem d_V_init_50 : decode b_V_init 50 = .ok (.iinc 1 1, 3) := by decide +kernel
theorem d_V_init_53 : decode b_V_init 53 = .ok (.goto (-36), 3) := by decide +kernel
theorem d_V_init_56 : decode b_V_init 56 = .ok (.aload_n 0, 1) := by decide +kernel
theorem d_V_init_57 : decode b_V_init 57 = .ok (.bipush 16, 2) := by decide +kernel
theorem d_V_init_59 : decode b_V_init 59 = .ok (.anewarray 29, 3) := by decide +kernel
theorem d_V_init_62 : decode b_V_init 62 = .ok (.putfield 31, 3) := by decide +kernel
theorem d_V_init_65 : decode b_V_init 65 = .ok (.return_, 1) := by decide +kernel
set_option maxHeartbeats 4000000 in
set_option maxRecDepth 100000 in
theorem c_V_init (l : Launch) (D : va_G) (dT : Nat → ClassId) (H : Heap) (dd : Nat) (zA : Nat → Prop) (a : Nat) (oa : va_at D cls (a, .inr (0, [.null, .null])) H) (hza : zA a) (hzf : ∀ q, H.size ≤ q → zA q) : Met l y_V_init w_V_init ({ frames := 7, cells := 22, slots := 27079, locals := 152 }) (z_PZ D dT [.ref a] H dd zA) (z_Q (fun q => q = a ∨ H.size ≤ q) (fun v H1 => v = none ∧ ∃ (B : Nat → Prop) (rg li ed : Nat), cI D dT B a rg li ed tb0 10 (fun _ => none) H1 ∧ ∀ q, B q → H.size ≤ q)) 22 27079 (fun q => q = a ∨ H.size ≤ q) := by
  refine Met.ofW (cc := b_V_init) (maxL := 2) (ret := (Option.none : Option FieldType)) (by decide) rfl ?_
  intro p e s m args below meth c s₁ B hml hv
  obtain ⟨rfl, rfl, hK, hZ⟩ := hv
  have hx := B.exec
  have hb := B.bytes
  have hr := B.returns
  have hts := atoms_spec (ws := w_V_init) B.pre
  have ht : ∀ w9 ∈ gt, w9.before [.ref a].toArray s = true := fun w9 h => hts w9 (List.mem_cons_of_mem _ h)
  have hown : s.vm.findClass "ValueTrees" = some m.cls := findClass_of_methodNamed B.named
  have hlocks := B.notSynchronized
  have hin : meth.name = "<init>" := (name_of_methodNamed B.named B.method).1
  have hS : va_S (fun q => q = a ∨ s.heap.size ≤ q) s.heap s.heap [] := va_S.rf
  have hl := lv_entry ([.ref a]) (n := 2) (Nat.le_of_ble_eq_true rfl)
  rw [lg_entry_eq]
  generalize (lg_sl ([.ref a]) ++ List.replicate (2 - (lg_sl ([.ref a])).length) Slot.unset).toArray = ls at hl ⊢
  have hl : lv_has ls 2 [(0, .ref a)] := hl
  have hAa : (fun q => q = a ∨ s.heap.size ≤ q) a := Or.inl rfl
  have hAz : ∀ q, (fun q => q = a ∨ s.heap.size ≤ q) q → zA q := fun q h9 => h9.elim (fun e9 => by rw [e9]; exact hza) (hzf q)
  refine lv_aload_n hx hb d_V_init_0 rfl (lv_at hl 0 rfl) ?_
  refine W.objInit hx hb hown (ht _ q26) (ht _ q27) (ht _ q28) rfl (hl.1.trans hml.symm) rfl d_V_init_1 (Nat.le_of_ble_eq_true rfl) (Nat.le_of_ble_eq_true rfl) ?_
  refine W.eq (g2 := F0 m 4 ls []) rfl ?_
  refine lv_aload_n hx hb d_V_init_4 rfl (lv_at hl 0 rfl) ?_
  have hSp := hS
  refine z_newo (ci := 9) hx hb ht in_AL ty_AL tyk_AL hown (ht _ q29) (ht _ q30) (ht _ q4) hK hS rfl fs_AL (Nat.le_of_ble_eq_true rfl) (Nat.le_of_ble_eq_true rfl) d_V_init_5 (fun ad1 H hqad1 hzad1 oad1 hoad1 hS => ?_)
  have neaad1 : a ≠ ad1 := by rw [hqad1]; exact Nat.ne_of_lt oa.lt
  have oa := oa.grew hoad1
  have hgad1 : s.heap.size ≤ ad1 := by rw [hqad1]; exact hSp.1
  have hAad1 : (fun q => q = a ∨ s.heap.size ≤ q) ad1 := (Or.inr hgad1)
  refine lv_dup hx hb d_V_init_8 rfl ?_
  refine z_callQ (va_runI (As := []) (rest := [.ref ad1, .ref a]) ⟨hx, hb, hml, hown, hts⟩ (c_AL_init l D dT _ dd zA ad1 oad1 (hzf _ hgad1)) ⟨callB_of 0 hts (gI gd_up gd_c q33) rfl rfl rfl (ht _ q4) (ht _ q31) hd_AL_init ⟨Nat.le_of_ble_eq_true rfl, Nat.le_of_ble_eq_true rfl⟩, rfl, ht _ q32⟩ (z_preSZ hK hZ hS hAz) rfl rfl hl.1 rfl (lv_room (Nat.le_of_ble_eq_true rfl)) d_V_init_9 ⟨(Nat.le_of_ble_eq_true rfl), (Nat.le_of_ble_eq_true rfl)⟩) hS (fun q9 h9 => by rw [show q9 = ad1 from h9]; exact hAad1) (fun v3 H locs hv2 hz4 hf5 hS => ?_)
  obtain ⟨rfl, oad1⟩ := hv2
  have oa := oa.kept (hf5 _ oa.lt (fun h9 => neaad1 h9))
  refine W.eq (g2 := F0 m 12 ls [.ref ad1, .ref a]) rfl ?_
  refine z_putF (ci := 0) (C := "ValueTrees") (T := T_V) (N := 2) hx hb ht in_V ty_V tyk_V nm_V hown hK hS hAa oa rfl 0 (by decide) (ht _ q145) (fun _ h9 => h9) rfl hin rfl rfl rfl (Nat.le_of_ble_eq_true rfl) d_V_init_12 (fun H locs oa hz6 ho7 hS => ?_)
  have oa : va_at D cls (a, .inr (0, [.ref ad1, .null])) H := oa
  have oad1 := oad1.off ho7 (Ne.symm neaad1)
  refine lv_iconst (v := 0) hx hb d_V_init_15 (by decide) ?_
  refine lv_istore_n (lv' := [(1, .int 0), (0, .ref a)]) hx hb d_V_init_16 rfl hl (by decide) rfl (fun ls hl => ?_)
  refine lv_iload_n hx hb d_V_init_17 rfl (lv_at hl 0 rfl) ?_
  refine lv_bipush (v := 9) hx hb d_V_init_18 (by decide) ?_
  refine lv_icmp_gt (tgt := 56) hx hb d_V_init_20 (by decide) (fun c8 => absurd c8 (by decide)) (fun _ => ?_)
  refine lv_aload_n hx hb d_V_init_23 rfl (lv_at hl 1 rfl) ?_
  refine va_get (D := D) (ci := 0) (v := .ref ad1) (C := "ValueTrees") (T := T_V) (N := 2) hx hb ht in_V hown hK.1 (z_1 oa) 0 rfl rfl 0 (by decide) (ht _ q145) (fun _ h9 => h9) rfl d_V_init_24 ?_
  have hSp := hS
  refine z_newo (ci := 1) hx hb ht in_Type ty_Type tyk_Type hown (ht _ q55) (ht _ q56) (ht _ q5) hK hS rfl fs_Type (Nat.le_of_ble_eq_true rfl) (Nat.le_of_ble_eq_true rfl) d_V_init_27 (fun ad9 H hqad9 hzad9 oad9 hoad9 hS => ?_)
  have neaad9 : a ≠ ad9 := by rw [hqad9]; exact Nat.ne_of_lt oa.lt
  have oa := oa.grew hoad9
  have nead1ad9 : ad1 ≠ ad9 := by rw [hqad9]; exact Nat.ne_of_lt oad1.lt
  have oad1 := oad1.grew hoad9
  have hgad9 : s.heap.size ≤ ad9 := by rw [hqad9]; exact hSp.1
  have hAad9 : (fun q => q = a ∨ s.heap.size ≤ q) ad9 := (Or.inr hgad9)
  refine lv_dup hx hb d_V_init_30 rfl ?_
  refine lv_iload_n hx hb d_V_init_31 rfl (lv_at hl 0 rfl) ?_
  refine lv_iconst (v := (-1)) hx hb d_V_init_32 (by decide) ?_
  refine lv_iconst (v := (-1)) hx hb d_V_init_33 (by decide) ?_
  refine lv_iconst (v := 1) hx hb d_V_init_34 (by decide) ?_
  refine lv_iload_n hx hb d_V_init_35 rfl (lv_at hl 0 rfl) ?_
  refine lv_bipush (v := 7) hx hb d_V_init_36 (by decide) ?_
  refine lv_bipush (v := 7) hx hb d_V_init_38 (by decide) ?_
  refine z_callR (va_runS (As := [.int 0, .int 7, .int 7]) (rest := [.int 1, .int (-1), .int (-1), .int 0, .ref ad9, .ref ad9, .ref ad1]) ⟨hx, hb, hml, hown, hts⟩ (c_V_marksOf l D dT _ 0 7 7 (by decide) (by decide) (by decide)) ⟨callB_of 3 hts (gI gd_up gd_c q59) rfl rfl rfl (ht _ q1) (ht _ q57) hd_V_marksOf ⟨Nat.le_of_ble_eq_true rfl, Nat.le_of_ble_eq_true rfl⟩, ht _ q58⟩ (z_preS hK) rfl rfl hl.1 rfl (lv_room (Nat.le_of_ble_eq_true rfl)) d_V_init_40 ⟨Nat.le_of_ble_eq_true rfl, Nat.le_of_ble_eq_true rfl⟩) (fun v11 hv10 => ?_)
  have hv10 : v11 = .int 7 := hv10
  subst hv10
  refine z_callQ (va_runI (As := [.int 0, .int (-1), .int (-1), .int 1, .int 7]) (rest := [.ref ad9, .ref ad1]) ⟨hx, hb, hml, hown, hts⟩ (c_Type_init l D dT _ ad9 oad9 0 (-1) (-1) 1 7) ⟨callB_of 5 hts (gI gd_up gd_c q62) rfl rfl rfl (ht _ q5) (ht _ q60) hd_Type_init ⟨Nat.le_of_ble_eq_true rfl, Nat.le_of_ble_eq_true rfl⟩, rfl, ht _ q61⟩ (z_preS hK) rfl rfl hl.1 rfl (lv_room (Nat.le_of_ble_eq_true rfl)) d_V_init_43 ⟨(Nat.le_of_ble_eq_true rfl), (Nat.le_of_ble_eq_true rfl)⟩) hS (fun q9 h9 => by rw [show q9 = ad9 from h9]; exact hAad9) (fun v13 H locs hv12 hz14 hf15 hS => ?_)
  obtain ⟨rfl, oad9⟩ := hv12
  have oad9 : va_at D cls (ad9, .inr (1, [.int 0, .int (-1), .int (-1), .int 1, .int 7])) H := oad9
  have oa := oa.kept (hf15 _ oa.lt (fun h9 => neaad9 h9))
  have oad1 := oad1.kept (hf15 _ oad1.lt (fun h9 => nead1ad9 h9))
  refine W.eq (g2 := F0 m 46 ls [.ref ad9, .ref ad1]) rfl ?_
  have hS0 := hS
  refine z_callQ (va_runV (C := "java/util/ArrayList") (As := [.ref ad9]) (rest := []) ⟨hx, hb, hml, hown, hts⟩ (c_add1_0 l D dT _ dd zA ad1 0 oad1 (hzf _ hgad1) (fun q9 h9 => hzf q9 (Nat.le_trans hS.1 h9)) ad9 [.int 0, .int (-1), .int (-1), .int 1, .int 7] oad9 (Ne.symm nead1ad9)) ⟨callB_of 1 hts (gI gd_up gd_c q88) rfl rfl rfl (ht _ q4) (ht _ q85) hd_AL_add1 ⟨Nat.le_of_ble_eq_true rfl, Nat.le_of_ble_eq_true rfl⟩, ht _ q86, ht _ q87⟩ (z_preVZ hK hZ hS hAz (va_recv hK.1 (z_1 oad1) (ci := 9) (q0 := 0) rfl rfl)) rfl rfl hl.1 rfl (lv_room (Nat.le_of_ble_eq_true rfl)) d_V_init_46 ⟨(Nat.le_of_ble_eq_true rfl), (Nat.le_of_ble_eq_true rfl)⟩) hS (fun q9 h9 => h9.elim (fun e9 => by rw [e9]; exact hAad1) (fun h8 => Or.inr (Nat.le_trans hS0.1 h8))) (fun v17 H locs hv16 hz18 hf19 hS => ?_)
  obtain ⟨rfl, ed1, hge, hli1, hed1⟩ := hv16
  have hnA : ¬ (a = ad1 ∨ _ ≤ a) := fun h9 => h9.elim neaad1 (Nat.not_le.mpr oa.lt)
  have ha1 : a ≠ ed1 := Nat.ne_of_lt (Nat.lt_of_lt_of_le oa.lt hge)
  have hq1e : ad9 ≠ ed1 := Nat.ne_of_lt (Nat.lt_of_lt_of_le oad9.lt hge)
  have hl1e : ad1 ≠ ed1 := Nat.ne_of_lt (Nat.lt_of_lt_of_le oad1.lt hge)
  have hge0 : s.heap.size ≤ ed1 := Nat.le_trans hS0.1 hge
  have oq1 := oad9.kept (hf19 _ oad9.lt (fun h9 => h9.elim (Ne.symm nead1ad9) (Nat.not_le.mpr oad9.lt)))
  have oa := oa.kept (hf19 _ oa.lt hnA)
  have hAT : aT D dT a ad1 s.heap.size 1 H := aT_first hli1 hed1 oq1 hl1e neaad1 ha1 (Ne.symm nead1ad9) hq1e (Ne.symm neaad9) hgad1 hge0
  have hN : nU H H := nU.rf
  refine W.eq (g2 := F0 m 49 ls [.int 1]) rfl ?_
  refine lv_pop hx hb d_V_init_49 rfl ?_
  refine lv_iinc (v := 1) (lv' := [(1, .int 1), (0, .ref a)]) hx hb d_V_init_50 hl (k := 0) rfl (by decide) (by decide) rfl (fun ls hl => ?_)
  refine lv_goto (tgt := 17) hx hb d_V_init_53 (by decide) ?_
  refine lv_iload_n hx hb d_V_init_17 rfl (lv_at hl 0 rfl) ?_
  refine lv_bipush (v := 9) hx hb d_V_init_18 (by decide) ?_
  refine lv_icmp_gt (tgt := 56) hx hb d_V_init_20 (by decide) (fun c20 => absurd c20 (by decide)) (fun _ => ?_)
  refine lv_aload_n hx hb d_V_init_23 rfl (lv_at hl 1 rfl) ?_
  refine va_get (D := D) (ci := 0) (v := .ref ad1) (C := "ValueTrees") (T := T_V) (N := 2) hx hb ht in_V hown hK.1 (z_1 oa) 0 rfl rfl 0 (by decide) (ht _ q145) (fun _ h9 => h9) rfl d_V_init_24 ?_
  have hSp := hS
  refine z_newo (ci := 1) hx hb ht in_Type ty_Type tyk_Type hown (ht _ q55) (ht _ q56) (ht _ q5) hK hS rfl fs_Type (Nat.le_of_ble_eq_true rfl) (Nat.le_of_ble_eq_true rfl) d_V_init_27 (fun ad21 H hqad21 hzad21 oad21 hoad21 hS => ?_)
  have neaad21 : a ≠ ad21 := by rw [hqad21]; exact Nat.ne_of_lt oa.lt
  have oa := oa.grew hoad21
  have hgad21 : s.heap.size ≤ ad21 := by rw [hqad21]; exact hSp.1
  have hAad21 : (fun q => q = a ∨ s.heap.size ≤ q) ad21 := (Or.inr hgad21)
  have hgbad21 := Nat.le_trans hN.1 (Nat.le_of_eq hqad21.symm)
  have hN := hN.grew hzad21 hoad21
  refine lv_dup hx hb d_V_init_30 rfl ?_
  refine lv_iload_n hx hb d_V_init_31 rfl (lv_at hl 0 rfl) ?_
  refine lv_iconst (v := (-1)) hx hb d_V_init_32 (by decide) ?_
  refine lv_iconst (v := (-1)) hx hb d_V_init_33 (by decide) ?_
  refine lv_iconst (v := 1) hx hb d_V_init_34 (by decide) ?_
  refine lv_iload_n hx hb d_V_init_35 rfl (lv_at hl 0 rfl) ?_
  refine lv_bipush (v := 7) hx hb d_V_init_36 (by decide) ?_
  refine lv_bipush (v := 7) hx hb d_V_init_38 (by decide) ?_
  refine z_callR (va_runS (As := [.int 1, .int 7, .int 7]) (rest := [.int 1, .int (-1), .int (-1), .int 1, .ref ad21, .ref ad21, .ref ad1]) ⟨hx, hb, hml, hown, hts⟩ (c_V_marksOf l D dT _ 1 7 7 (by decide) (by decide) (by decide)) ⟨callB_of 3 hts (gI gd_up gd_c q59) rfl rfl rfl (ht _ q1) (ht _ q57) hd_V_marksOf ⟨Nat.le_of_ble_eq_true rfl, Nat.le_of_ble_eq_true rfl⟩, ht _ q58⟩ (z_preS hK) rfl rfl hl.1 rfl (lv_room (Nat.le_of_ble_eq_true rfl)) d_V_init_40 ⟨Nat.le_of_ble_eq_true rfl, Nat.le_of_ble_eq_true rfl⟩) (fun v23 hv22 => ?_)
  have hv22 : v23 = .int 7 := hv22
  subst hv22
  refine z_callQ (va_runI (As := [.int 1, .int (-1), .int (-1), .int 1, .int 7]) (rest := [.ref ad21, .ref ad1]) ⟨hx, hb, hml, hown, hts⟩ (c_Type_init l D dT _ ad21 oad21 1 (-1) (-1) 1 7) ⟨callB_of 5 hts (gI gd_up gd_c q62) rfl rfl rfl (ht _ q5) (ht _ q60) hd_Type_init ⟨Nat.le_of_ble_eq_true rfl, Nat.le_of_ble_eq_true rfl⟩, rfl, ht _ q61⟩ (z_preS hK) rfl rfl hl.1 rfl (lv_room (Nat.le_of_ble_eq_true rfl)) d_V_init_43 ⟨(Nat.le_of_ble_eq_true rfl), (Nat.le_of_ble_eq_true rfl)⟩) hS (fun q9 h9 => by rw [show q9 = ad21 from h9]; exact hAad21) (fun v25 H locs hv24 hz26 hf27 hS => ?_)
  obtain ⟨rfl, oad21⟩ := hv24
  have oad21 : va_at D cls (ad21, .inr (1, [.int 1, .int (-1), .int (-1), .int 1, .int 7])) H := oad21
  have oa := oa.kept (hf27 _ oa.lt (fun h9 => neaad21 h9))
  have hN := hN.call hz26 hf27 (fun x hx h9 => by have h8 : x = ad21 := h9; omega)
  refine W.eq (g2 := F0 m 46 ls [.ref ad21, .ref ad1]) rfl ?_
  have hS0 := hS
  obtain ⟨B9, ed, b1, b2, b3, b4, b5, hct⟩ := hAT
  have hnq : ¬ B9 ad21 := fun h9 => absurd (b5 _ h9).1 (Nat.not_lt.mpr hgbad21)
  have hqa : ad21 ≠ a := (Ne.symm neaad21)
  obtain ⟨mcn, cap, g, hli, hed, hcap, hcap0, hcapm, hty9⟩ := hct.up hN.2
  have b5 : ∀ q, B9 q → q < Array.size H ∧ s.heap.size ≤ q := fun q h9 => ⟨Nat.lt_of_lt_of_le (b5 q h9).1 hN.1, (b5 q h9).2⟩
  have hT9 : allT D g 1 H := fun i hi y hy => by
    obtain ⟨x, a1, -, a3⟩ := hty9 i hi
    have e9 : x = y := Option.some.inj (a1.symm.trans hy)
    rw [e9] at a3
    exact ⟨_, a3⟩
  have hTl : ∀ i, i < 1 → ∀ y, g i = some y → y ≠ ad1 := fun i hi y hy e8 => by
    obtain ⟨x, a1, a2, -⟩ := hty9 i hi
    have e9 : x = y := Option.some.inj (a1.symm.trans hy)
    exact a2 (Or.inl (by rw [e9, e8]; exact b1))
  refine z_callQ (va_runV (C := "java/util/ArrayList") (As := [.ref ad21]) (rest := []) ⟨hx, hb, hml, hown, hts⟩ (c_add1 l D dT _ ad1 ed 1 mcn g hli cap hed hcap (by decide) hcapm hcap0 hT9 b3 ad21 [.int 1, .int (-1), .int (-1), .int 1, .int 7] oad21 (fun e9 => hnq (by rw [e9]; exact b1)) (fun e9 => hnq (by rw [e9]; exact b2)) hTl) ⟨callB_of 1 hts (gI gd_up gd_c q88) rfl rfl rfl (ht _ q4) (ht _ q85) hd_AL_add1 ⟨Nat.le_of_ble_eq_true rfl, Nat.le_of_ble_eq_true rfl⟩, ht _ q86, ht _ q87⟩ (z_preV hK (z_recv hK hli rfl)) rfl rfl hl.1 rfl (lv_room (Nat.le_of_ble_eq_true rfl)) d_V_init_46 ⟨(Nat.le_of_ble_eq_true rfl), (Nat.le_of_ble_eq_true rfl)⟩) hS (fun q9 h9 => h9.elim (fun e9 => Or.inr (by rw [e9]; exact (b5 _ b1).2)) (fun h8 => h8.elim (fun e9 => Or.inr (by rw [e9]; exact (b5 _ b2).2)) (fun h7 => Or.inr (Nat.le_trans hS0.1 h7)))) (fun v29 H locs hv28 hz30 hf31 hS => ?_)
  obtain ⟨rfl, ed', mc', cap', g', he', hli', hed', hc1, hc2, hg1, hg2⟩ := hv28
  have hAT : aT D dT a ad1 s.heap.size 2 H := aT_next b1 b2 b3 b4 oa.lt b5 hty9 hz30 hf31 oad21 hnq hqa he' hli' hed' hc1 hc2 hg1 hg2 hS0.1
  have oa := oa.kept (hf31 _ oa.lt (fun h9 => h9.elim (fun e9 => b4 (by rw [show a = ad1 from e9]; exact b1)) (fun h8 => h8.elim (fun e9 => b4 (by rw [show a = ed from e9]; exact b2)) (Nat.not_le.mpr oa.lt))))
  have hN : nU H H := nU.rf
  refine W.eq (g2 := F0 m 49 ls [.int 1]) rfl ?_
  refine lv_pop hx hb d_V_init_49 rfl ?_
  refine lv_iinc (v := 2) (lv' := [(1, .int 2), (0, .ref a)]) hx hb d_V_init_50 hl (k := 0) rfl (by decide) (by decide) rfl (fun ls hl => ?_)
  refine lv_goto (tgt := 17) hx hb d_V_init_53 (by decide) ?_
  refine lv_iload_n hx hb d_V_init_17 rfl (lv_at hl 0 rfl) ?_
  refine lv_bipush (v := 9) hx hb d_V_init_18 (by decide) ?_
  refine lv_icmp_gt (tgt := 56) hx hb d_V_init_20 (by decide) (fun c32 => absurd c32 (by decide)) (fun _ => ?_)
  refine lv_aload_n hx hb d_V_init_23 rfl (lv_at hl 1 rfl) ?_
  refine va_get (D := D) (ci := 0) (v := .ref ad1) (C := "ValueTrees") (T := T_V) (N := 2) hx hb ht in_V hown hK.1 (z_1 oa) 0 rfl rfl 0 (by decide) (ht _ q145) (fun _ h9 => h9) rfl d_V_init_24 ?_
  have hSp := hS
  refine z_newo (ci := 1) hx hb ht in_Type ty_Type tyk_Type hown (ht _ q55) (ht _ q56) (ht _ q5) hK hS rfl fs_Type (Nat.le_of_ble_eq_true rfl) (Nat.le_of_ble_eq_true rfl) d_V_init_27 (fun ad33 H hqad33 hzad33 oad33 hoad33 hS => ?_)
  have neaad33 : a ≠ ad33 := by rw [hqad33]; exact Nat.ne_of_lt oa.lt
  have oa := oa.grew hoad33
  have hgad33 : s.heap.size ≤ ad33 := by rw [hqad33]; exact hSp.1
  have hAad33 : (fun q => q = a ∨ s.heap.size ≤ q) ad33 := (Or.inr hgad33)
  have hgbad33 := Nat.le_trans hN.1 (Nat.le_of_eq hqad33.symm)
  have hN := hN.grew hzad33 hoad33
  refine lv_dup hx hb d_V_init_30 rfl ?_
  refine lv_iload_n hx hb d_V_init_31 rfl (lv_at hl 0 rfl) ?_
  refine lv_iconst (v := (-1)) hx hb d_V_init_32 (by decide) ?_
  refine lv_iconst (v := (-1)) hx hb d_V_init_33 (by decide) ?_
  refine lv_iconst (v := 1) hx hb d_V_init_34 (by decide) ?_
  refine lv_iload_n hx hb d_V_init_35 rfl (lv_at hl 0 rfl) ?_
  refine lv_bipush (v := 7) hx hb d_V_init_36 (by decide) ?_
  refine lv_bipush (v := 7) hx hb d_V_init_38 (by decide) ?_
  refine z_callR (va_runS (As := [.int 2, .int 7, .int 7]) (rest := [.int 1, .int (-1), .int (-1), .int 2, .ref ad33, .ref ad33, .ref ad1]) ⟨hx, hb, hml, hown, hts⟩ (c_V_marksOf l D dT _ 2 7 7 (by decide) (by decide) (by decide)) ⟨callB_of 3 hts (gI gd_up gd_c q59) rfl rfl rfl (ht _ q1) (ht _ q57) hd_V_marksOf ⟨Nat.le_of_ble_eq_true rfl, Nat.le_of_ble_eq_true rfl⟩, ht _ q58⟩ (z_preS hK) rfl rfl hl.1 rfl (lv_room (Nat.le_of_ble_eq_true rfl)) d_V_init_40 ⟨Nat.le_of_ble_eq_true rfl, Nat.le_of_ble_eq_true rfl⟩) (fun v35 hv34 => ?_)
  have hv34 : v35 = .int 7 := hv34
  subst hv34
  refine z_callQ (va_runI (As := [.int 2, .int (-1), .int (-1), .int 1, .int 7]) (rest := [.ref ad33, .ref ad1]) ⟨hx, hb, hml, hown, hts⟩ (c_Type_init l D dT _ ad33 oad33 2 (-1) (-1) 1 7) ⟨callB_of 5 hts (gI gd_up gd_c q62) rfl rfl rfl (ht _ q5) (ht _ q60) hd_Type_init ⟨Nat.le_of_ble_eq_true rfl, Nat.le_of_ble_eq_true rfl⟩, rfl, ht _ q61⟩ (z_preS hK) rfl rfl hl.1 rfl (lv_room (Nat.le_of_ble_eq_true rfl)) d_V_init_43 ⟨(Nat.le_of_ble_eq_true rfl), (Nat.le_of_ble_eq_true rfl)⟩) hS (fun q9 h9 => by rw [show q9 = ad33 from h9]; exact hAad33) (fun v37 H locs hv36 hz38 hf39 hS => ?_)
  obtain ⟨rfl, oad33⟩ := hv36
  have oad33 : va_at D cls (ad33, .inr (1, [.int 2, .int (-1), .int (-1), .int 1, .int 7])) H := oad33
  have oa := oa.kept (hf39 _ oa.lt (fun h9 => neaad33 h9))
  have hN := hN.call hz38 hf39 (fun x hx h9 => by have h8 : x = ad33 := h9; omega)
  refine W.eq (g2 := F0 m 46 ls [.ref ad33, .ref ad1]) rfl ?_
  have hS0 := hS
  obtain ⟨B9, ed, b1, b2, b3, b4, b5, hct⟩ := hAT
  have hnq : ¬ B9 ad33 := fun h9 => absurd (b5 _ h9).1 (Nat.not_lt.mpr hgbad33)
  have hqa : ad33 ≠ a := (Ne.symm neaad33)
  obtain ⟨mcn, cap, g, hli, hed, hcap, hcap0, hcapm, hty9⟩ := hct.up hN.2
  have b5 : ∀ q, B9 q → q < Array.size H ∧ s.heap.size ≤ q := fun q h9 => ⟨Nat.lt_of_lt_of_le (b5 q h9).1 hN.1, (b5 q h9).2⟩
  have hT9 : allT D g 2 H := fun i hi y hy => by
    obtain ⟨x, a1, -, a3⟩ := hty9 i hi
    have e9 : x = y := Option.some.inj (a1.symm.trans hy)
    rw [e9] at a3
    exact ⟨_, a3⟩
  have hTl : ∀ i, i < 2 → ∀ y, g i = some y → y ≠ ad1 := fun i hi y hy e8 => by
    obtain ⟨x, a1, a2, -⟩ := hty9 i hi
    have e9 : x = y := Option.some.inj (a1.symm.trans hy)
    exact a2 (Or.inl (by rw [e9, e8]; exact b1))
  refine z_callQ (va_runV (C := "java/util/ArrayList") (As := [.ref ad33]) (rest := []) ⟨hx, hb, hml, hown, hts⟩ (c_add1 l D dT _ ad1 ed 2 mcn g hli cap hed hcap (by decide) hcapm hcap0 hT9 b3 ad33 [.int 2, .int (-1), .int (-1), .int 1, .int 7] oad33 (fun e9 => hnq (by rw [e9]; exact b1)) (fun e9 => hnq (by rw [e9]; exact b2)) hTl) ⟨callB_of 1 hts (gI gd_up gd_c q88) rfl rfl rfl (ht _ q4) (ht _ q85) hd_AL_add1 ⟨Nat.le_of_ble_eq_true rfl, Nat.le_of_ble_eq_true rfl⟩, ht _ q86, ht _ q87⟩ (z_preV hK (z_recv hK hli rfl)) rfl rfl hl.1 rfl (lv_room (Nat.le_of_ble_eq_true rfl)) d_V_init_46 ⟨(Nat.le_of_ble_eq_true rfl), (Nat.le_of_ble_eq_true rfl)⟩) hS (fun q9 h9 => h9.elim (fun e9 => Or.inr (by rw [e9]; exact (b5 _ b1).2)) (fun h8 => h8.elim (fun e9 => Or.inr (by rw [e9]; exact (b5 _ b2).2)) (fun h7 => Or.inr (Nat.le_trans hS0.1 h7)))) (fun v41 H locs hv40 hz42 hf43 hS => ?_)
  obtain ⟨rfl, ed', mc', cap', g', he', hli', hed', hc1, hc2, hg1, hg2⟩ := hv40
  have hAT : aT D dT a ad1 s.heap.size 3 H := aT_next b1 b2 b3 b4 oa.lt b5 hty9 hz42 hf43 oad33 hnq hqa he' hli' hed' hc1 hc2 hg1 hg2 hS0.1
  have oa := oa.kept (hf43 _ oa.lt (fun h9 => h9.elim (fun e9 => b4 (by rw [show a = ad1 from e9]; exact b1)) (fun h8 => h8.elim (fun e9 => b4 (by rw [show a = ed from e9]; exact b2)) (Nat.not_le.mpr oa.lt))))
  have hN : nU H H := nU.rf
  refine W.eq (g2 := F0 m 49 ls [.int 1]) rfl ?_
  refine lv_pop hx hb d_V_init_49 rfl ?_
  refine lv_iinc (v := 3) (lv' := [(1, .int 3), (0, .ref a)]) hx hb d_V_init_50 hl (k := 0) rfl (by decide) (by decide) rfl (fun ls hl => ?_)
  refine lv_goto (tgt := 17) hx hb d_V_init_53 (by decide) ?_
  refine lv_iload_n hx hb d_V_init_17 rfl (lv_at hl 0 rfl) ?_
  refine lv_bipush (v := 9) hx hb d_V_init_18 (by decide) ?_
  refine lv_icmp_gt (tgt := 56) hx hb d_V_init_20 (by decide) (fun c44 => absurd c44 (by decide)) (fun _ => ?_)
  refine lv_aload_n hx hb d_V_init_23 rfl (lv_at hl 1 rfl) ?_
  refine va_get (D := D) (ci := 0) (v := .ref ad1) (C := "ValueTrees") (T := T_V) (N := 2) hx hb ht in_V hown hK.1 (z_1 oa) 0 rfl rfl 0 (by decide) (ht _ q145) (fun _ h9 => h9) rfl d_V_init_24 ?_
  have hSp := hS
  refine z_newo (ci := 1) hx hb ht in_Type ty_Type tyk_Type hown (ht _ q55) (ht _ q56) (ht _ q5) hK hS rfl fs_Type (Nat.le_of_ble_eq_true rfl) (Nat.le_of_ble_eq_true rfl) d_V_init_27 (fun ad45 H hqad45 hzad45 oad45 hoad45 hS => ?_)
  have neaad45 : a ≠ ad45 := by rw [hqad45]; exact Nat.ne_of_lt oa.lt
  have oa := oa.grew hoad45
  have hgad45 : s.heap.size ≤ ad45 := by rw [hqad45]; exact hSp.1
  have hAad45 : (fun q => q = a ∨ s.heap.size ≤ q) ad45 := (Or.inr hgad45)
  have hgbad45 := Nat.le_trans hN.1 (Nat.le_of_eq hqad45.symm)
  have hN := hN.grew hzad45 hoad45
  refine lv_dup hx hb d_V_init_30 rfl ?_
  refine lv_iload_n hx hb d_V_init_31 rfl (lv_at hl 0 rfl) ?_
  refine lv_iconst (v := (-1)) hx hb d_V_init_32 (by decide) ?_
  refine lv_iconst (v := (-1)) hx hb d_V_init_33 (by decide) ?_
  refine lv_iconst (v := 1) hx hb d_V_init_34 (by decide) ?_
  refine lv_iload_n hx hb d_V_init_35 rfl (lv_at hl 0 rfl) ?_
  refine lv_bipush (v := 7) hx hb d_V_init_36 (by decide) ?_
  refine lv_bipush (v := 7) hx hb d_V_init_38 (by decide) ?_
  refine z_callR (va_runS (As := [.int 3, .int 7, .int 7]) (rest := [.int 1, .int (-1), .int (-1), .int 3, .ref ad45, .ref ad45, .ref ad1]) ⟨hx, hb, hml, hown, hts⟩ (c_V_marksOf l D dT _ 3 7 7 (by decide) (by decide) (by decide)) ⟨callB_of 3 hts (gI gd_up gd_c q59) rfl rfl rfl (ht _ q1) (ht _ q57) hd_V_marksOf ⟨Nat.le_of_ble_eq_true rfl, Nat.le_of_ble_eq_true rfl⟩, ht _ q58⟩ (z_preS hK) rfl rfl hl.1 rfl (lv_room (Nat.le_of_ble_eq_true rfl)) d_V_init_40 ⟨Nat.le_of_ble_eq_true rfl, Nat.le_of_ble_eq_true rfl⟩) (fun v47 hv46 => ?_)
  have hv46 : v47 = .int 7 := hv46
  subst hv46
  refine z_callQ (va_runI (As := [.int 3, .int (-1), .int (-1), .int 1, .int 7]) (rest := [.ref ad45, .ref ad1]) ⟨hx, hb, hml, hown, hts⟩ (c_Type_init l D dT _ ad45 oad45 3 (-1) (-1) 1 7) ⟨callB_of 5 hts (gI gd_up gd_c q62) rfl rfl rfl (ht _ q5) (ht _ q60) hd_Type_init ⟨Nat.le_of_ble_eq_true rfl, Nat.le_of_ble_eq_true rfl⟩, rfl, ht _ q61⟩ (z_preS hK) rfl rfl hl.1 rfl (lv_room (Nat.le_of_ble_eq_true rfl)) d_V_init_43 ⟨(Nat.le_of_ble_eq_true rfl), (Nat.le_of_ble_eq_true rfl)⟩) hS (fun q9 h9 => by rw [show q9 = ad45 from h9]; exact hAad45) (fun v49 H locs hv48 hz50 hf51 hS => ?_)
  obtain ⟨rfl, oad45⟩ := hv48
  have oad45 : va_at D cls (ad45, .inr (1, [.int 3, .int (-1), .int (-1), .int 1, .int 7])) H := oad45
  have oa := oa.kept (hf51 _ oa.lt (fun h9 => neaad45 h9))
  have hN := hN.call hz50 hf51 (fun x hx h9 => by have h8 : x = ad45 := h9; omega)
  refine W.eq (g2 := F0 m 46 ls [.ref ad45, .ref ad1]) rfl ?_
  have hS0 := hS
  obtain ⟨B9, ed, b1, b2, b3, b4, b5, hct⟩ := hAT
  have hnq : ¬ B9 ad45 := fun h9 => absurd (b5 _ h9).1 (Nat.not_lt.mpr hgbad45)
  have hqa : ad45 ≠ a := (Ne.symm neaad45)
  obtain ⟨mcn, cap, g, hli, hed, hcap, hcap0, hcapm, hty9⟩ := hct.up hN.2
  have b5 : ∀ q, B9 q → q < Array.size H ∧ s.heap.size ≤ q := fun q h9 => ⟨Nat.lt_of_lt_of_le (b5 q h9).1 hN.1, (b5 q h9).2⟩
  have hT9 : allT D g 3 H := fun i hi y hy => by
    obtain ⟨x, a1, -, a3⟩ := hty9 i hi
    have e9 : x = y := Option.some.inj (a1.symm.trans hy)
    rw [e9] at a3
    exact ⟨_, a3⟩
  have hTl : ∀ i, i < 3 → ∀ y, g i = some y → y ≠ ad1 := fun i hi y hy e8 => by
    obtain ⟨x, a1, a2, -⟩ := hty9 i hi
    have e9 : x = y := Option.some.inj (a1.symm.trans hy)
    exact a2 (Or.inl (by rw [e9, e8]; exact b1))
  refine z_callQ (va_runV (C := "java/util/ArrayList") (As := [.ref ad45]) (rest := []) ⟨hx, hb, hml, hown, hts⟩ (c_add1 l D dT _ ad1 ed 3 mcn g hli cap hed hcap (by decide) hcapm hcap0 hT9 b3 ad45 [.int 3, .int (-1), .int (-1), .int 1, .int 7] oad45 (fun e9 => hnq (by rw [e9]; exact b1)) (fun e9 => hnq (by rw [e9]; exact b2)) hTl) ⟨callB_of 1 hts (gI gd_up gd_c q88) rfl rfl rfl (ht _ q4) (ht _ q85) hd_AL_add1 ⟨Nat.le_of_ble_eq_true rfl, Nat.le_of_ble_eq_true rfl⟩, ht _ q86, ht _ q87⟩ (z_preV hK (z_recv hK hli rfl)) rfl rfl hl.1 rfl (lv_room (Nat.le_of_ble_eq_true rfl)) d_V_init_46 ⟨(Nat.le_of_ble_eq_true rfl), (Nat.le_of_ble_eq_true rfl)⟩) hS (fun q9 h9 => h9.elim (fun e9 => Or.inr (by rw [e9]; exact (b5 _ b1).2)) (fun h8 => h8.elim (fun e9 => Or.inr (by rw [e9]; exact (b5 _ b2).2)) (fun h7 => Or.inr (Nat.le_trans hS0.1 h7)))) (fun v53 H locs hv52 hz54 hf55 hS => ?_)
  obtain ⟨rfl, ed', mc', cap', g', he', hli', hed', hc1, hc2, hg1, hg2⟩ := hv52
  have hAT : aT D dT a ad1 s.heap.size 4 H := aT_next b1 b2 b3 b4 oa.lt b5 hty9 hz54 hf55 oad45 hnq hqa he' hli' hed' hc1 hc2 hg1 hg2 hS0.1
  have oa := oa.kept (hf55 _ oa.lt (fun h9 => h9.elim (fun e9 => b4 (by rw [show a = ad1 from e9]; exact b1)) (fun h8 => h8.elim (fun e9 => b4 (by rw [show a = ed from e9]; exact b2)) (Nat.not_le.mpr oa.lt))))
  have hN : nU H H := nU.rf
  refine W.eq (g2 := F0 m 49 ls [.int 1]) rfl ?_
  refine lv_pop hx hb d_V_init_49 rfl ?_
  refine lv_iinc (v := 4) (lv' := [(1, .int 4), (0, .ref a)]) hx hb d_V_init_50 hl (k := 0) rfl (by decide) (by decide) rfl (fun ls hl => ?_)
  refine lv_goto (tgt := 17) hx hb d_V_init_53 (by decide) ?_
  refine lv_iload_n hx hb d_V_init_17 rfl (lv_at hl 0 rfl) ?_
  refine lv_bipush (v := 9) hx hb d_V_init_18 (by decide) ?_
  refine lv_icmp_gt (tgt := 56) hx hb d_V_init_20 (by decide) (fun c56 => absurd c56 (by decide)) (fun _ => ?_)
  refine lv_aload_n hx hb d_V_init_23 rfl (lv_at hl 1 rfl) ?_
  refine va_get (D := D) (ci := 0) (v := .ref ad1) (C := "ValueTrees") (T := T_V) (N := 2) hx hb ht in_V hown hK.1 (z_1 oa) 0 rfl rfl 0 (by decide) (ht _ q145) (fun _ h9 => h9) rfl d_V_init_24 ?_
  have hSp := hS
  refine z_newo (ci := 1) hx hb ht in_Type ty_Type tyk_Type hown (ht _ q55) (ht _ q56) (ht _ q5) hK hS rfl fs_Type (Nat.le_of_ble_eq_true rfl) (Nat.le_of_ble_eq_true rfl) d_V_init_27 (fun ad57 H hqad57 hzad57 oad57 hoad57 hS => ?_)
  have neaad57 : a ≠ ad57 := by rw [hqad57]; exact Nat.ne_of_lt oa.lt
  have oa := oa.grew hoad57
  have hgad57 : s.heap.size ≤ ad57 := by rw [hqad57]; exact hSp.1
  have hAad57 : (fun q => q = a ∨ s.heap.size ≤ q) ad57 := (Or.inr hgad57)
  have hgbad57 := Nat.le_trans hN.1 (Nat.le_of_eq hqad57.symm)
  have hN := hN.grew hzad57 hoad57
  refine lv_dup hx hb d_V_init_30 rfl ?_
  refine lv_iload_n hx hb d_V_init_31 rfl (lv_at hl 0 rfl) ?_
  refine lv_iconst (v := (-1)) hx hb d_V_init_32 (by decide) ?_
  refine lv_iconst (v := (-1)) hx hb d_V_init_33 (by decide) ?_
  refine lv_iconst (v := 1) hx hb d_V_init_34 (by decide) ?_
  refine lv_iload_n hx hb d_V_init_35 rfl (lv_at hl 0 rfl) ?_
  refine lv_bipush (v := 7) hx hb d_V_init_36 (by decide) ?_
  refine lv_bipush (v := 7) hx hb d_V_init_38 (by decide) ?_
  refine z_callR (va_runS (As := [.int 4, .int 7, .int 7]) (rest := [.int 1, .int (-1), .int (-1), .int 4, .ref ad57, .ref ad57, .ref ad1]) ⟨hx, hb, hml, hown, hts⟩ (c_V_marksOf l D dT _ 4 7 7 (by decide) (by decide) (by decide)) ⟨callB_of 3 hts (gI gd_up gd_c q59) rfl rfl rfl (ht _ q1) (ht _ q57) hd_V_marksOf ⟨Nat.le_of_ble_eq_true rfl, Nat.le_of_ble_eq_true rfl⟩, ht _ q58⟩ (z_preS hK) rfl rfl hl.1 rfl (lv_room (Nat.le_of_ble_eq_true rfl)) d_V_init_40 ⟨Nat.le_of_ble_eq_true rfl, Nat.le_of_ble_eq_true rfl⟩) (fun v59 hv58 => ?_)
  have hv58 : v59 = .int 7 := hv58
  subst hv58
  refine z_callQ (va_runI (As := [.int 4, .int (-1), .int (-1), .int 1, .int 7]) (rest := [.ref ad57, .ref ad1]) ⟨hx, hb, hml, hown, hts⟩ (c_Type_init l D dT _ ad57 oad57 4 (-1) (-1) 1 7) ⟨callB_of 5 hts (gI gd_up gd_c q62) rfl rfl rfl (ht _ q5) (ht _ q60) hd_Type_init ⟨Nat.le_of_ble_eq_true rfl, Nat.le_of_ble_eq_true rfl⟩, rfl, ht _ q61⟩ (z_preS hK) rfl rfl hl.1 rfl (lv_room (Nat.le_of_ble_eq_true rfl)) d_V_init_43 ⟨(Nat.le_of_ble_eq_true rfl), (Nat.le_of_ble_eq_true rfl)⟩) hS (fun q9 h9 => by rw [show q9 = ad57 from h9]; exact hAad57) (fun v61 H locs hv60 hz62 hf63 hS => ?_)
  obtain ⟨rfl, oad57⟩ := hv60
  have oad57 : va_at D cls (ad57, .inr (1, [.int 4, .int (-1), .int (-1), .int 1, .int 7])) H := oad57
  have oa := oa.kept (hf63 _ oa.lt (fun h9 => neaad57 h9))
  have hN := hN.call hz62 hf63 (fun x hx h9 => by have h8 : x = ad57 := h9; omega)
  refine W.eq (g2 := F0 m 46 ls [.ref ad57, .ref ad1]) rfl ?_
  have hS0 := hS
  obtain ⟨B9, ed, b1, b2, b3, b4, b5, hct⟩ := hAT
  have hnq : ¬ B9 ad57 := fun h9 => absurd (b5 _ h9).1 (Nat.not_lt.mpr hgbad57)
  have hqa : ad57 ≠ a := (Ne.symm neaad57)
  obtain ⟨mcn, cap, g, hli, hed, hcap, hcap0, hcapm, hty9⟩ := hct.up hN.2
  have b5 : ∀ q, B9 q → q < Array.size H ∧ s.heap.size ≤ q := fun q h9 => ⟨Nat.lt_of_lt_of_le (b5 q h9).1 hN.1, (b5 q h9).2⟩
  have hT9 : allT D g 4 H := fun i hi y hy => by
    obtain ⟨x, a1, -, a3⟩ := hty9 i hi
    have e9 : x = y := Option.some.inj (a1.symm.trans hy)
    rw [e9] at a3
    exact ⟨_, a3⟩
  have hTl : ∀ i, i < 4 → ∀ y, g i = some y → y ≠ ad1 := fun i hi y hy e8 => by
    obtain ⟨x, a1, a2, -⟩ := hty9 i hi
    have e9 : x = y := Option.some.inj (a1.symm.trans hy)
    exact a2 (Or.inl (by rw [e9, e8]; exact b1))
  refine z_callQ (va_runV (C := "java/util/ArrayList") (As := [.ref ad57]) (rest := []) ⟨hx, hb, hml, hown, hts⟩ (c_add1 l D dT _ ad1 ed 4 mcn g hli cap hed hcap (by decide) hcapm hcap0 hT9 b3 ad57 [.int 4, .int (-1), .int (-1), .int 1, .int 7] oad57 (fun e9 => hnq (by rw [e9]; exact b1)) (fun e9 => hnq (by rw [e9]; exact b2)) hTl) ⟨callB_of 1 hts (gI gd_up gd_c q88) rfl rfl rfl (ht _ q4) (ht _ q85) hd_AL_add1 ⟨Nat.le_of_ble_eq_true rfl, Nat.le_of_ble_eq_true rfl⟩, ht _ q86, ht _ q87⟩ (z_preV hK (z_recv hK hli rfl)) rfl rfl hl.1 rfl (lv_room (Nat.le_of_ble_eq_true rfl)) d_V_init_46 ⟨(Nat.le_of_ble_eq_true rfl), (Nat.le_of_ble_eq_true rfl)⟩) hS (fun q9 h9 => h9.elim (fun e9 => Or.inr (by rw [e9]; exact (b5 _ b1).2)) (fun h8 => h8.elim (fun e9 => Or.inr (by rw [e9]; exact (b5 _ b2).2)) (fun h7 => Or.inr (Nat.le_trans hS0.1 h7)))) (fun v65 H locs hv64 hz66 hf67 hS => ?_)
  obtain ⟨rfl, ed', mc', cap', g', he', hli', hed', hc1, hc2, hg1, hg2⟩ := hv64
  have hAT : aT D dT a ad1 s.heap.size 5 H := aT_next b1 b2 b3 b4 oa.lt b5 hty9 hz66 hf67 oad57 hnq hqa he' hli' hed' hc1 hc2 hg1 hg2 hS0.1
  have oa := oa.kept (hf67 _ oa.lt (fun h9 => h9.elim (fun e9 => b4 (by rw [show a = ad1 from e9]; exact b1)) (fun h8 => h8.elim (fun e9 => b4 (by rw [show a = ed from e9]; exact b2)) (Nat.not_le.mpr oa.lt))))
  have hN : nU H H := nU.rf
  refine W.eq (g2 := F0 m 49 ls [.int 1]) rfl ?_
  refine lv_pop hx hb d_V_init_49 rfl ?_
  refine lv_iinc (v := 5) (lv' := [(1, .int 5), (0, .ref a)]) hx hb d_V_init_50 hl (k := 0) rfl (by decide) (by decide) rfl (fun ls hl => ?_)
  refine lv_goto (tgt := 17) hx hb d_V_init_53 (by decide) ?_
  refine lv_iload_n hx hb d_V_init_17 rfl (lv_at hl 0 rfl) ?_
  refine lv_bipush (v := 9) hx hb d_V_init_18 (by decide) ?_
  refine lv_icmp_gt (tgt := 56) hx hb d_V_init_20 (by decide) (fun c68 => absurd c68 (by decide)) (fun _ => ?_)
  refine lv_aload_n hx hb d_V_init_23 rfl (lv_at hl 1 rfl) ?_
  refine va_get (D := D) (ci := 0) (v := .ref ad1) (C := "ValueTrees") (T := T_V) (N := 2) hx hb ht in_V hown hK.1 (z_1 oa) 0 rfl rfl 0 (by decide) (ht _ q145) (fun _ h9 => h9) rfl d_V_init_24 ?_
  have hSp := hS
  refine z_newo (ci := 1) hx hb ht in_Type ty_Type tyk_Type hown (ht _ q55) (ht _ q56) (ht _ q5) hK hS rfl fs_Type (Nat.le_of_ble_eq_true rfl) (Nat.le_of_ble_eq_true rfl) d_V_init_27 (fun ad69 H hqad69 hzad69 oad69 hoad69 hS => ?_)
  have neaad69 : a ≠ ad69 := by rw [hqad69]; exact Nat.ne_of_lt oa.lt
  have oa := oa.grew hoad69
  have hgad69 : s.heap.size ≤ ad69 := by rw [hqad69]; exact hSp.1
  have hAad69 : (fun q => q = a ∨ s.heap.size ≤ q) ad69 := (Or.inr hgad69)
  have hgbad69 := Nat.le_trans hN.1 (Nat.le_of_eq hqad69.symm)
  have hN := hN.grew hzad69 hoad69
  refine lv_dup hx hb d_V_init_30 rfl ?_
  refine lv_iload_n hx hb d_V_init_31 rfl (lv_at hl 0 rfl) ?_
  refine lv_iconst (v := (-1)) hx hb d_V_init_32 (by decide) ?_
  refine lv_iconst (v := (-1)) hx hb d_V_init_33 (by decide) ?_
  refine lv_iconst (v := 1) hx hb d_V_init_34 (by decide) ?_
  refine lv_iload_n hx hb d_V_init_35 rfl (lv_at hl 0 rfl) ?_
  refine lv_bipush (v := 7) hx hb d_V_init_36 (by decide) ?_
  refine lv_bipush (v := 7) hx hb d_V_init_38 (by decide) ?_
  refine z_callR (va_runS (As := [.int 5, .int 7, .int 7]) (rest := [.int 1, .int (-1), .int (-1), .int 5, .ref ad69, .ref ad69, .ref ad1]) ⟨hx, hb, hml, hown, hts⟩ (c_V_marksOf l D dT _ 5 7 7 (by decide) (by decide) (by decide)) ⟨callB_of 3 hts (gI gd_up gd_c q59) rfl rfl rfl (ht _ q1) (ht _ q57) hd_V_marksOf ⟨Nat.le_of_ble_eq_true rfl, Nat.le_of_ble_eq_true rfl⟩, ht _ q58⟩ (z_preS hK) rfl rfl hl.1 rfl (lv_room (Nat.le_of_ble_eq_true rfl)) d_V_init_40 ⟨Nat.le_of_ble_eq_true rfl, Nat.le_of_ble_eq_true rfl⟩) (fun v71 hv70 => ?_)
  have hv70 : v71 = .int 7 := hv70
  subst hv70
  refine z_callQ (va_runI (As := [.int 5, .int (-1), .int (-1), .int 1, .int 7]) (rest := [.ref ad69, .ref ad1]) ⟨hx, hb, hml, hown, hts⟩ (c_Type_init l D dT _ ad69 oad69 5 (-1) (-1) 1 7) ⟨callB_of 5 hts (gI gd_up gd_c q62) rfl rfl rfl (ht _ q5) (ht _ q60) hd_Type_init ⟨Nat.le_of_ble_eq_true rfl, Nat.le_of_ble_eq_true rfl⟩, rfl, ht _ q61⟩ (z_preS hK) rfl rfl hl.1 rfl (lv_room (Nat.le_of_ble_eq_true rfl)) d_V_init_43 ⟨(Nat.le_of_ble_eq_true rfl), (Nat.le_of_ble_eq_true rfl)⟩) hS (fun q9 h9 => by rw [show q9 = ad69 from h9]; exact hAad69) (fun v73 H locs hv72 hz74 hf75 hS => ?_)
  obtain ⟨rfl, oad69⟩ := hv72
  have oad69 : va_at D cls (ad69, .inr (1, [.int 5, .int (-1), .int (-1), .int 1, .int 7])) H := oad69
  have oa := oa.kept (hf75 _ oa.lt (fun h9 => neaad69 h9))
  have hN := hN.call hz74 hf75 (fun x hx h9 => by have h8 : x = ad69 := h9; omega)
  refine W.eq (g2 := F0 m 46 ls [.ref ad69, .ref ad1]) rfl ?_
  have hS0 := hS
  obtain ⟨B9, ed, b1, b2, b3, b4, b5, hct⟩ := hAT
  have hnq : ¬ B9 ad69 := fun h9 => absurd (b5 _ h9).1 (Nat.not_lt.mpr hgbad69)
  have hqa : ad69 ≠ a := (Ne.symm neaad69)
  obtain ⟨mcn, cap, g, hli, hed, hcap, hcap0, hcapm, hty9⟩ := hct.up hN.2
  have b5 : ∀ q, B9 q → q < Array.size H ∧ s.heap.size ≤ q := fun q h9 => ⟨Nat.lt_of_lt_of_le (b5 q h9).1 hN.1, (b5 q h9).2⟩
  have hT9 : allT D g 5 H := fun i hi y hy => by
    obtain ⟨x, a1, -, a3⟩ := hty9 i hi
    have e9 : x = y := Option.some.inj (a1.symm.trans hy)
    rw [e9] at a3
    exact ⟨_, a3⟩
  have hTl : ∀ i, i < 5 → ∀ y, g i = some y → y ≠ ad1 := fun i hi y hy e8 => by
    obtain ⟨x, a1, a2, -⟩ := hty9 i hi
    have e9 : x = y := Option.some.inj (a1.symm.trans hy)
    exact a2 (Or.inl (by rw [e9, e8]; exact b1))
  refine z_callQ (va_runV (C := "java/util/ArrayList") (As := [.ref ad69]) (rest := []) ⟨hx, hb, hml, hown, hts⟩ (c_add1 l D dT _ ad1 ed 5 mcn g hli cap hed hcap (by decide) hcapm hcap0 hT9 b3 ad69 [.int 5, .int (-1), .int (-1), .int 1, .int 7] oad69 (fun e9 => hnq (by rw [e9]; exact b1)) (fun e9 => hnq (by rw [e9]; exact b2)) hTl) ⟨callB_of 1 hts (gI gd_up gd_c q88) rfl rfl rfl (ht _ q4) (ht _ q85) hd_AL_add1 ⟨Nat.le_of_ble_eq_true rfl, Nat.le_of_ble_eq_true rfl⟩, ht _ q86, ht _ q87⟩ (z_preV hK (z_recv hK hli rfl)) rfl rfl hl.1 rfl (lv_room (Nat.le_of_ble_eq_true rfl)) d_V_init_46 ⟨(Nat.le_of_ble_eq_true rfl), (Nat.le_of_ble_eq_true rfl)⟩) hS (fun q9 h9 => h9.elim (fun e9 => Or.inr (by rw [e9]; exact (b5 _ b1).2)) (fun h8 => h8.elim (fun e9 => Or.inr (by rw [e9]; exact (b5 _ b2).2)) (fun h7 => Or.inr (Nat.le_trans hS0.1 h7)))) (fun v77 H locs hv76 hz78 hf79 hS => ?_)
  obtain ⟨rfl, ed', mc', cap', g', he', hli', hed', hc1, hc2, hg1, hg2⟩ := hv76
  have hAT : aT D dT a ad1 s.heap.size 6 H := aT_next b1 b2 b3 b4 oa.lt b5 hty9 hz78 hf79 oad69 hnq hqa he' hli' hed' hc1 hc2 hg1 hg2 hS0.1
  have oa := oa.kept (hf79 _ oa.lt (fun h9 => h9.elim (fun e9 => b4 (by rw [show a = ad1 from e9]; exact b1)) (fun h8 => h8.elim (fun e9 => b4 (by rw [show a = ed from e9]; exact b2)) (Nat.not_le.mpr oa.lt))))
  have hN : nU H H := nU.rf
  refine W.eq (g2 := F0 m 49 ls [.int 1]) rfl ?_
  refine lv_pop hx hb d_V_init_49 rfl ?_
  refine lv_iinc (v := 6) (lv' := [(1, .int 6), (0, .ref a)]) hx hb d_V_init_50 hl (k := 0) rfl (by decide) (by decide) rfl (fun ls hl => ?_)
  refine lv_goto (tgt := 17) hx hb d_V_init_53 (by decide) ?_
  refine lv_iload_n hx hb d_V_init_17 rfl (lv_at hl 0 rfl) ?_
  refine lv_bipush (v := 9) hx hb d_V_init_18 (by decide) ?_
  refine lv_icmp_gt (tgt := 56) hx hb d_V_init_20 (by decide) (fun c80 => absurd c80 (by decide)) (fun _ => ?_)
  refine lv_aload_n hx hb d_V_init_23 rfl (lv_at hl 1 rfl) ?_
  refine va_get (D := D) (ci := 0) (v := .ref ad1) (C := "ValueTrees") (T := T_V) (N := 2) hx hb ht in_V hown hK.1 (z_1 oa) 0 rfl rfl 0 (by decide) (ht _ q145) (fun _ h9 => h9) rfl d_V_init_24 ?_
  have hSp := hS
  refine z_newo (ci := 1) hx hb ht in_Type ty_Type tyk_Type hown (ht _ q55) (ht _ q56) (ht _ q5) hK hS rfl fs_Type (Nat.le_of_ble_eq_true rfl) (Nat.le_of_ble_eq_true rfl) d_V_init_27 (fun ad81 H hqad81 hzad81 oad81 hoad81 hS => ?_)
  have neaad81 : a ≠ ad81 := by rw [hqad81]; exact Nat.ne_of_lt oa.lt
  have oa := oa.grew hoad81
  have hgad81 : s.heap.size ≤ ad81 := by rw [hqad81]; exact hSp.1
  have hAad81 : (fun q => q = a ∨ s.heap.size ≤ q) ad81 := (Or.inr hgad81)
  have hgbad81 := Nat.le_trans hN.1 (Nat.le_of_eq hqad81.symm)
  have hN := hN.grew hzad81 hoad81
  refine lv_dup hx hb d_V_init_30 rfl ?_
  refine lv_iload_n hx hb d_V_init_31 rfl (lv_at hl 0 rfl) ?_
  refine lv_iconst (v := (-1)) hx hb d_V_init_32 (by decide) ?_
  refine lv_iconst (v := (-1)) hx hb d_V_init_33 (by decide) ?_
  refine lv_iconst (v := 1) hx hb d_V_init_34 (by decide) ?_
  refine lv_iload_n hx hb d_V_init_35 rfl (lv_at hl 0 rfl) ?_
  refine lv_bipush (v := 7) hx hb d_V_init_36 (by decide) ?_
  refine lv_bipush (v := 7) hx hb d_V_init_38 (by decide) ?_
  refine z_callR (va_runS (As := [.int 6, .int 7, .int 7]) (rest := [.int 1, .int (-1), .int (-1), .int 6, .ref ad81, .ref ad81, .ref ad1]) ⟨hx, hb, hml, hown, hts⟩ (c_V_marksOf l D dT _ 6 7 7 (by decide) (by decide) (by decide)) ⟨callB_of 3 hts (gI gd_up gd_c q59) rfl rfl rfl (ht _ q1) (ht _ q57) hd_V_marksOf ⟨Nat.le_of_ble_eq_true rfl, Nat.le_of_ble_eq_true rfl⟩, ht _ q58⟩ (z_preS hK) rfl rfl hl.1 rfl (lv_room (Nat.le_of_ble_eq_true rfl)) d_V_init_40 ⟨Nat.le_of_ble_eq_true rfl, Nat.le_of_ble_eq_true rfl⟩) (fun v83 hv82 => ?_)
  have hv82 : v83 = .int 7 := hv82
  subst hv82
  refine z_callQ (va_runI (As := [.int 6, .int (-1), .int (-1), .int 1, .int 7]) (rest := [.ref ad81, .ref ad1]) ⟨hx, hb, hml, hown, hts⟩ (c_Type_init l D dT _ ad81 oad81 6 (-1) (-1) 1 7) ⟨callB_of 5 hts (gI gd_up gd_c q62) rfl rfl rfl (ht _ q5) (ht _ q60) hd_Type_init ⟨Nat.le_of_ble_eq_true rfl, Nat.le_of_ble_eq_true rfl⟩, rfl, ht _ q61⟩ (z_preS hK) rfl rfl hl.1 rfl (lv_room (Nat.le_of_ble_eq_true rfl)) d_V_init_43 ⟨(Nat.le_of_ble_eq_true rfl), (Nat.le_of_ble_eq_true rfl)⟩) hS (fun q9 h9 => by rw [show q9 = ad81 from h9]; exact hAad81) (fun v85 H locs hv84 hz86 hf87 hS => ?_)
  obtain ⟨rfl, oad81⟩ := hv84
  have oad81 : va_at D cls (ad81, .inr (1, [.int 6, .int (-1), .int (-1), .int 1, .int 7])) H := oad81
  have oa := oa.kept (hf87 _ oa.lt (fun h9 => neaad81 h9))
  have hN := hN.call hz86 hf87 (fun x hx h9 => by have h8 : x = ad81 := h9; omega)
  refine W.eq (g2 := F0 m 46 ls [.ref ad81, .ref ad1]) rfl ?_
  have hS0 := hS
  obtain ⟨B9, ed, b1, b2, b3, b4, b5, hct⟩ := hAT
  have hnq : ¬ B9 ad81 := fun h9 => absurd (b5 _ h9).1 (Nat.not_lt.mpr hgbad81)
  have hqa : ad81 ≠ a := (Ne.symm neaad81)
  obtain ⟨mcn, cap, g, hli, hed, hcap, hcap0, hcapm, hty9⟩ := hct.up hN.2
  have b5 : ∀ q, B9 q → q < Array.size H ∧ s.heap.size ≤ q := fun q h9 => ⟨Nat.lt_of_lt_of_le (b5 q h9).1 hN.1, (b5 q h9).2⟩
  have hT9 : allT D g 6 H := fun i hi y hy => by
    obtain ⟨x, a1, -, a3⟩ := hty9 i hi
    have e9 : x = y := Option.some.inj (a1.symm.trans hy)
    rw [e9] at a3
    exact ⟨_, a3⟩
  have hTl : ∀ i, i < 6 → ∀ y, g i = some y → y ≠ ad1 := fun i hi y hy e8 => by
    obtain ⟨x, a1, a2, -⟩ := hty9 i hi
    have e9 : x = y := Option.some.inj (a1.symm.trans hy)
    exact a2 (Or.inl (by rw [e9, e8]; exact b1))
  refine z_callQ (va_runV (C := "java/util/ArrayList") (As := [.ref ad81]) (rest := []) ⟨hx, hb, hml, hown, hts⟩ (c_add1 l D dT _ ad1 ed 6 mcn g hli cap hed hcap (by decide) hcapm hcap0 hT9 b3 ad81 [.int 6, .int (-1), .int (-1), .int 1, .int 7] oad81 (fun e9 => hnq (by rw [e9]; exact b1)) (fun e9 => hnq (by rw [e9]; exact b2)) hTl) ⟨callB_of 1 hts (gI gd_up gd_c q88) rfl rfl rfl (ht _ q4) (ht _ q85) hd_AL_add1 ⟨Nat.le_of_ble_eq_true rfl, Nat.le_of_ble_eq_true rfl⟩, ht _ q86, ht _ q87⟩ (z_preV hK (z_recv hK hli rfl)) rfl rfl hl.1 rfl (lv_room (Nat.le_of_ble_eq_true rfl)) d_V_init_46 ⟨(Nat.le_of_ble_eq_true rfl), (Nat.le_of_ble_eq_true rfl)⟩) hS (fun q9 h9 => h9.elim (fun e9 => Or.inr (by rw [e9]; exact (b5 _ b1).2)) (fun h8 => h8.elim (fun e9 => Or.inr (by rw [e9]; exact (b5 _ b2).2)) (fun h7 => Or.inr (Nat.le_trans hS0.1 h7)))) (fun v89 H locs hv88 hz90 hf91 hS => ?_)
  obtain ⟨rfl, ed', mc', cap', g', he', hli', hed', hc1, hc2, hg1, hg2⟩ := hv88
  have hAT : aT D dT a ad1 s.heap.size 7 H := aT_next b1 b2 b3 b4 oa.lt b5 hty9 hz90 hf91 oad81 hnq hqa he' hli' hed' hc1 hc2 hg1 hg2 hS0.1
  have oa := oa.kept (hf91 _ oa.lt (fun h9 => h9.elim (fun e9 => b4 (by rw [show a = ad1 from e9]; exact b1)) (fun h8 => h8.elim (fun e9 => b4 (by rw [show a = ed from e9]; exact b2)) (Nat.not_le.mpr oa.lt))))
  have hN : nU H H := nU.rf
  refine W.eq (g2 := F0 m 49 ls [.int 1]) rfl ?_
  refine lv_pop hx hb d_V_init_49 rfl ?_
  refine lv_iinc (v := 7) (lv' := [(1, .int 7), (0, .ref a)]) hx hb d_V_init_50 hl (k := 0) rfl (by decide) (by decide) rfl (fun ls hl => ?_)
  refine lv_goto (tgt := 17) hx hb d_V_init_53 (by decide) ?_
  refine lv_iload_n hx hb d_V_init_17 rfl (lv_at hl 0 rfl) ?_
  refine lv_bipush (v := 9) hx hb d_V_init_18 (by decide) ?_
  refine lv_icmp_gt (tgt := 56) hx hb d_V_init_20 (by decide) (fun c92 => absurd c92 (by decide)) (fun _ => ?_)
  refine lv_aload_n hx hb d_V_init_23 rfl (lv_at hl 1 rfl) ?_
  refine va_get (D := D) (ci := 0) (v := .ref ad1) (C := "ValueTrees") (T := T_V) (N := 2) hx hb ht in_V hown hK.1 (z_1 oa) 0 rfl rfl 0 (by decide) (ht _ q145) (fun _ h9 => h9) rfl d_V_init_24 ?_
  have hSp := hS
  refine z_newo (ci := 1) hx hb ht in_Type ty_Type tyk_Type hown (ht _ q55) (ht _ q56) (ht _ q5) hK hS rfl fs_Type (Nat.le_of_ble_eq_true rfl) (Nat.le_of_ble_eq_true rfl) d_V_init_27 (fun ad93 H hqad93 hzad93 oad93 hoad93 hS => ?_)
  have neaad93 : a ≠ ad93 := by rw [hqad93]; exact Nat.ne_of_lt oa.lt
  have oa := oa.grew hoad93
  have hgad93 : s.heap.size ≤ ad93 := by rw [hqad93]; exact hSp.1
  have hAad93 : (fun q => q = a ∨ s.heap.size ≤ q) ad93 := (Or.inr hgad93)
  have hgbad93 := Nat.le_trans hN.1 (Nat.le_of_eq hqad93.symm)
  have hN := hN.grew hzad93 hoad93
  refine lv_dup hx hb d_V_init_30 rfl ?_
  refine lv_iload_n hx hb d_V_init_31 rfl (lv_at hl 0 rfl) ?_
  refine lv_iconst (v := (-1)) hx hb d_V_init_32 (by decide) ?_
  refine lv_iconst (v := (-1)) hx hb d_V_init_33 (by decide) ?_
  refine lv_iconst (v := 1) hx hb d_V_init_34 (by decide) ?_
  refine lv_iload_n hx hb d_V_init_35 rfl (lv_at hl 0 rfl) ?_
  refine lv_bipush (v := 7) hx hb d_V_init_36 (by decide) ?_
  refine lv_bipush (v := 7) hx hb d_V_init_38 (by decide) ?_
  refine z_callR (va_runS (As := [.int 7, .int 7, .int 7]) (rest := [.int 1, .int (-1), .int (-1), .int 7, .ref ad93, .ref ad93, .ref ad1]) ⟨hx, hb, hml, hown, hts⟩ (c_V_marksOf l D dT _ 7 7 7 (by decide) (by decide) (by decide)) ⟨callB_of 3 hts (gI gd_up gd_c q59) rfl rfl rfl (ht _ q1) (ht _ q57) hd_V_marksOf ⟨Nat.le_of_ble_eq_true rfl, Nat.le_of_ble_eq_true rfl⟩, ht _ q58⟩ (z_preS hK) rfl rfl hl.1 rfl (lv_room (Nat.le_of_ble_eq_true rfl)) d_V_init_40 ⟨Nat.le_of_ble_eq_true rfl, Nat.le_of_ble_eq_true rfl⟩) (fun v95 hv94 => ?_)
  have hv94 : v95 = .int 7 := hv94
  subst hv94
  refine z_callQ (va_runI (As := [.int 7, .int (-1), .int (-1), .int 1, .int 7]) (rest := [.ref ad93, .ref ad1]) ⟨hx, hb, hml, hown, hts⟩ (c_Type_init l D dT _ ad93 oad93 7 (-1) (-1) 1 7) ⟨callB_of 5 hts (gI gd_up gd_c q62) rfl rfl rfl (ht _ q5) (ht _ q60) hd_Type_init ⟨Nat.le_of_ble_eq_true rfl, Nat.le_of_ble_eq_true rfl⟩, rfl, ht _ q61⟩ (z_preS hK) rfl rfl hl.1 rfl (lv_room (Nat.le_of_ble_eq_true rfl)) d_V_init_43 ⟨(Nat.le_of_ble_eq_true rfl), (Nat.le_of_ble_eq_true rfl)⟩) hS (fun q9 h9 => by rw [show q9 = ad93 from h9]; exact hAad93) (fun v97 H locs hv96 hz98 hf99 hS => ?_)
  obtain ⟨rfl, oad93⟩ := hv96
  have oad93 : va_at D cls (ad93, .inr (1, [.int 7, .int (-1), .int (-1), .int 1, .int 7])) H := oad93
  have oa := oa.kept (hf99 _ oa.lt (fun h9 => neaad93 h9))
  have hN := hN.call hz98 hf99 (fun x hx h9 => by have h8 : x = ad93 := h9; omega)
  refine W.eq (g2 := F0 m 46 ls [.ref ad93, .ref ad1]) rfl ?_
  have hS0 := hS
  obtain ⟨B9, ed, b1, b2, b3, b4, b5, hct⟩ := hAT
  have hnq : ¬ B9 ad93 := fun h9 => absurd (b5 _ h9).1 (Nat.not_lt.mpr hgbad93)
  have hqa : ad93 ≠ a := (Ne.symm neaad93)
  obtain ⟨mcn, cap, g, hli, hed, hcap, hcap0, hcapm, hty9⟩ := hct.up hN.2
  have b5 : ∀ q, B9 q → q < Array.size H ∧ s.heap.size ≤ q := fun q h9 => ⟨Nat.lt_of_lt_of_le (b5 q h9).1 hN.1, (b5 q h9).2⟩
  have hT9 : allT D g 7 H := fun i hi y hy => by
    obtain ⟨x, a1, -, a3⟩ := hty9 i hi
    have e9 : x = y := Option.some.inj (a1.symm.trans hy)
    rw [e9] at a3
    exact ⟨_, a3⟩
  have hTl : ∀ i, i < 7 → ∀ y, g i = some y → y ≠ ad1 := fun i hi y hy e8 => by
    obtain ⟨x, a1, a2, -⟩ := hty9 i hi
    have e9 : x = y := Option.some.inj (a1.symm.trans hy)
    exact a2 (Or.inl (by rw [e9, e8]; exact b1))
  refine z_callQ (va_runV (C := "java/util/ArrayList") (As := [.ref ad93]) (rest := []) ⟨hx, hb, hml, hown, hts⟩ (c_add1 l D dT _ ad1 ed 7 mcn g hli cap hed hcap (by decide) hcapm hcap0 hT9 b3 ad93 [.int 7, .int (-1), .int (-1), .int 1, .int 7] oad93 (fun e9 => hnq (by rw [e9]; exact b1)) (fun e9 => hnq (by rw [e9]; exact b2)) hTl) ⟨callB_of 1 hts (gI gd_up gd_c q88) rfl rfl rfl (ht _ q4) (ht _ q85) hd_AL_add1 ⟨Nat.le_of_ble_eq_true rfl, Nat.le_of_ble_eq_true rfl⟩, ht _ q86, ht _ q87⟩ (z_preV hK (z_recv hK hli rfl)) rfl rfl hl.1 rfl (lv_room (Nat.le_of_ble_eq_true rfl)) d_V_init_46 ⟨(Nat.le_of_ble_eq_true rfl), (Nat.le_of_ble_eq_true rfl)⟩) hS (fun q9 h9 => h9.elim (fun e9 => Or.inr (by rw [e9]; exact (b5 _ b1).2)) (fun h8 => h8.elim (fun e9 => Or.inr (by rw [e9]; exact (b5 _ b2).2)) (fun h7 => Or.inr (Nat.le_trans hS0.1 h7)))) (fun v101 H locs hv100 hz102 hf103 hS => ?_)
  obtain ⟨rfl, ed', mc', cap', g', he', hli', hed', hc1, hc2, hg1, hg2⟩ := hv100
  have hAT : aT D dT a ad1 s.heap.size 8 H := aT_next b1 b2 b3 b4 oa.lt b5 hty9 hz102 hf103 oad93 hnq hqa he' hli' hed' hc1 hc2 hg1 hg2 hS0.1
  have oa := oa.kept (hf103 _ oa.lt (fun h9 => h9.elim (fun e9 => b4 (by rw [show a = ad1 from e9]; exact b1)) (fun h8 => h8.elim (fun e9 => b4 (by rw [show a = ed from e9]; exact b2)) (Nat.not_le.mpr oa.lt))))
  have hN : nU H H := nU.rf
  refine W.eq (g2 := F0 m 49 ls [.int 1]) rfl ?_
  refine lv_pop hx hb d_V_init_49 rfl ?_
  refine lv_iinc (v := 8) (lv' := [(1, .int 8), (0, .ref a)]) hx hb d_V_init_50 hl (k := 0) rfl (by decide) (by decide) rfl (fun ls hl => ?_)
  refine lv_goto (tgt := 17) hx hb d_V_init_53 (by decide) ?_
  refine lv_iload_n hx hb d_V_init_17 rfl (lv_at hl 0 rfl) ?_
  refine lv_bipush (v := 9) hx hb d_V_init_18 (by decide) ?_
  refine lv_icmp_gt (tgt := 56) hx hb d_V_init_20 (by decide) (fun c104 => absurd c104 (by decide)) (fun _ => ?_)
  refine lv_aload_n hx hb d_V_init_23 rfl (lv_at hl 1 rfl) ?_
  refine va_get (D := D) (ci := 0) (v := .ref ad1) (C := "ValueTrees") (T := T_V) (N := 2) hx hb ht in_V hown hK.1 (z_1 oa) 0 rfl rfl 0 (by decide) (ht _ q145) (fun _ h9 => h9) rfl d_V_init_24 ?_
  have hSp := hS
  refine z_newo (ci := 1) hx hb ht in_Type ty_Type tyk_Type hown (ht _ q55) (ht _ q56) (ht _ q5) hK hS rfl fs_Type (Nat.le_of_ble_eq_true rfl) (Nat.le_of_ble_eq_true rfl) d_V_init_27 (fun ad105 H hqad105 hzad105 oad105 hoad105 hS => ?_)
  have neaad105 : a ≠ ad105 := by rw [hqad105]; exact Nat.ne_of_lt oa.lt
  have oa := oa.grew hoad105
  have hgad105 : s.heap.size ≤ ad105 := by rw [hqad105]; exact hSp.1
  have hAad105 : (fun q => q = a ∨ s.heap.size ≤ q) ad105 := (Or.inr hgad105)
  have hgbad105 := Nat.le_trans hN.1 (Nat.le_of_eq hqad105.symm)
  have hN := hN.grew hzad105 hoad105
  refine lv_dup hx hb d_V_init_30 rfl ?_
  refine lv_iload_n hx hb d_V_init_31 rfl (lv_at hl 0 rfl) ?_
  refine lv_iconst (v := (-1)) hx hb d_V_init_32 (by decide) ?_
  refine lv_iconst (v := (-1)) hx hb d_V_init_33 (by decide) ?_
  refine lv_iconst (v := 1) hx hb d_V_init_34 (by decide) ?_
  refine lv_iload_n hx hb d_V_init_35 rfl (lv_at hl 0 rfl) ?_
  refine lv_bipush (v := 7) hx hb d_V_init_36 (by decide) ?_
  refine lv_bipush (v := 7) hx hb d_V_init_38 (by decide) ?_
  refine z_callR (va_runS (As := [.int 8, .int 7, .int 7]) (rest := [.int 1, .int (-1), .int (-1), .int 8, .ref ad105, .ref ad105, .ref ad1]) ⟨hx, hb, hml, hown, hts⟩ (c_V_marksOf l D dT _ 8 7 7 (by decide) (by decide) (by decide)) ⟨callB_of 3 hts (gI gd_up gd_c q59) rfl rfl rfl (ht _ q1) (ht _ q57) hd_V_marksOf ⟨Nat.le_of_ble_eq_true rfl, Nat.le_of_ble_eq_true rfl⟩, ht _ q58⟩ (z_preS hK) rfl rfl hl.1 rfl (lv_room (Nat.le_of_ble_eq_true rfl)) d_V_init_40 ⟨Nat.le_of_ble_eq_true rfl, Nat.le_of_ble_eq_true rfl⟩) (fun v107 hv106 => ?_)
  have hv106 : v107 = .int 7 := hv106
  subst hv106
  refine z_callQ (va_runI (As := [.int 8, .int (-1), .int (-1), .int 1, .int 7]) (rest := [.ref ad105, .ref ad1]) ⟨hx, hb, hml, hown, hts⟩ (c_Type_init l D dT _ ad105 oad105 8 (-1) (-1) 1 7) ⟨callB_of 5 hts (gI gd_up gd_c q62) rfl rfl rfl (ht _ q5) (ht _ q60) hd_Type_init ⟨Nat.le_of_ble_eq_true rfl, Nat.le_of_ble_eq_true rfl⟩, rfl, ht _ q61⟩ (z_preS hK) rfl rfl hl.1 rfl (lv_room (Nat.le_of_ble_eq_true rfl)) d_V_init_43 ⟨(Nat.le_of_ble_eq_true rfl), (Nat.le_of_ble_eq_true rfl)⟩) hS (fun q9 h9 => by rw [show q9 = ad105 from h9]; exact hAad105) (fun v109 H locs hv108 hz110 hf111 hS => ?_)
  obtain ⟨rfl, oad105⟩ := hv108
  have oad105 : va_at D cls (ad105, .inr (1, [.int 8, .int (-1), .int (-1), .int 1, .int 7])) H := oad105
  have oa := oa.kept (hf111 _ oa.lt (fun h9 => neaad105 h9))
  have hN := hN.call hz110 hf111 (fun x hx h9 => by have h8 : x = ad105 := h9; omega)
  refine W.eq (g2 := F0 m 46 ls [.ref ad105, .ref ad1]) rfl ?_
  have hS0 := hS
  obtain ⟨B9, ed, b1, b2, b3, b4, b5, hct⟩ := hAT
  have hnq : ¬ B9 ad105 := fun h9 => absurd (b5 _ h9).1 (Nat.not_lt.mpr hgbad105)
  have hqa : ad105 ≠ a := (Ne.symm neaad105)
  obtain ⟨mcn, cap, g, hli, hed, hcap, hcap0, hcapm, hty9⟩ := hct.up hN.2
  have b5 : ∀ q, B9 q → q < Array.size H ∧ s.heap.size ≤ q := fun q h9 => ⟨Nat.lt_of_lt_of_le (b5 q h9).1 hN.1, (b5 q h9).2⟩
  have hT9 : allT D g 8 H := fun i hi y hy => by
    obtain ⟨x, a1, -, a3⟩ := hty9 i hi
    have e9 : x = y := Option.some.inj (a1.symm.trans hy)
    rw [e9] at a3
    exact ⟨_, a3⟩
  have hTl : ∀ i, i < 8 → ∀ y, g i = some y → y ≠ ad1 := fun i hi y hy e8 => by
    obtain ⟨x, a1, a2, -⟩ := hty9 i hi
    have e9 : x = y := Option.some.inj (a1.symm.trans hy)
    exact a2 (Or.inl (by rw [e9, e8]; exact b1))
  refine z_callQ (va_runV (C := "java/util/ArrayList") (As := [.ref ad105]) (rest := []) ⟨hx, hb, hml, hown, hts⟩ (c_add1 l D dT _ ad1 ed 8 mcn g hli cap hed hcap (by decide) hcapm hcap0 hT9 b3 ad105 [.int 8, .int (-1), .int (-1), .int 1, .int 7] oad105 (fun e9 => hnq (by rw [e9]; exact b1)) (fun e9 => hnq (by rw [e9]; exact b2)) hTl) ⟨callB_of 1 hts (gI gd_up gd_c q88) rfl rfl rfl (ht _ q4) (ht _ q85) hd_AL_add1 ⟨Nat.le_of_ble_eq_true rfl, Nat.le_of_ble_eq_true rfl⟩, ht _ q86, ht _ q87⟩ (z_preV hK (z_recv hK hli rfl)) rfl rfl hl.1 rfl (lv_room (Nat.le_of_ble_eq_true rfl)) d_V_init_46 ⟨(Nat.le_of_ble_eq_true rfl), (Nat.le_of_ble_eq_true rfl)⟩) hS (fun q9 h9 => h9.elim (fun e9 => Or.inr (by rw [e9]; exact (b5 _ b1).2)) (fun h8 => h8.elim (fun e9 => Or.inr (by rw [e9]; exact (b5 _ b2).2)) (fun h7 => Or.inr (Nat.le_trans hS0.1 h7)))) (fun v113 H locs hv112 hz114 hf115 hS => ?_)
  obtain ⟨rfl, ed', mc', cap', g', he', hli', hed', hc1, hc2, hg1, hg2⟩ := hv112
  have hAT : aT D dT a ad1 s.heap.size 9 H := aT_next b1 b2 b3 b4 oa.lt b5 hty9 hz114 hf115 oad105 hnq hqa he' hli' hed' hc1 hc2 hg1 hg2 hS0.1
  have oa := oa.kept (hf115 _ oa.lt (fun h9 => h9.elim (fun e9 => b4 (by rw [show a = ad1 from e9]; exact b1)) (fun h8 => h8.elim (fun e9 => b4 (by rw [show a = ed from e9]; exact b2)) (Nat.not_le.mpr oa.lt))))
  have hN : nU H H := nU.rf
  refine W.eq (g2 := F0 m 49 ls [.int 1]) rfl ?_
  refine lv_pop hx hb d_V_init_49 rfl ?_
  refine lv_iinc (v := 9) (lv' := [(1, .int 9), (0, .ref a)]) hx hb d_V_init_50 hl (k := 0) rfl (by decide) (by decide) rfl (fun ls hl => ?_)
  refine lv_goto (tgt := 17) hx hb d_V_init_53 (by decide) ?_
  refine lv_iload_n hx hb d_V_init_17 rfl (lv_at hl 0 rfl) ?_
  refine lv_bipush (v := 9) hx hb d_V_init_18 (by decide) ?_
  refine lv_icmp_gt (tgt := 56) hx hb d_V_init_20 (by decide) (fun c116 => absurd c116 (by decide)) (fun _ => ?_)
  refine lv_aload_n hx hb d_V_init_23 rfl (lv_at hl 1 rfl) ?_
  refine va_get (D := D) (ci := 0) (v := .ref ad1) (C := "ValueTrees") (T := T_V) (N := 2) hx hb ht in_V hown hK.1 (z_1 oa) 0 rfl rfl 0 (by decide) (ht _ q145) (fun _ h9 => h9) rfl d_V_init_24 ?_
  have hSp := hS
  refine z_newo (ci := 1) hx hb ht in_Type ty_Type tyk_Type hown (ht _ q55) (ht _ q56) (ht _ q5) hK hS rfl fs_Type (Nat.le_of_ble_eq_true rfl) (Nat.le_of_ble_eq_true rfl) d_V_init_27 (fun ad117 H hqad117 hzad117 oad117 hoad117 hS => ?_)
  have neaad117 : a ≠ ad117 := by rw [hqad117]; exact Nat.ne_of_lt oa.lt
  have oa := oa.grew hoad117
  have hgad117 : s.heap.size ≤ ad117 := by rw [hqad117]; exact hSp.1
  have hAad117 : (fun q => q = a ∨ s.heap.size ≤ q) ad117 := (Or.inr hgad117)
  have hgbad117 := Nat.le_trans hN.1 (Nat.le_of_eq hqad117.symm)
  have hN := hN.grew hzad117 hoad117
  refine lv_dup hx hb d_V_init_30 rfl ?_
  refine lv_iload_n hx hb d_V_init_31 rfl (lv_at hl 0 rfl) ?_
  refine lv_iconst (v := (-1)) hx hb d_V_init_32 (by decide) ?_
  refine lv_iconst (v := (-1)) hx hb d_V_init_33 (by decide) ?_
  refine lv_iconst (v := 1) hx hb d_V_init_34 (by decide) ?_
  refine lv_iload_n hx hb d_V_init_35 rfl (lv_at hl 0 rfl) ?_
  refine lv_bipush (v := 7) hx hb d_V_init_36 (by decide) ?_
  refine lv_bipush (v := 7) hx hb d_V_init_38 (by decide) ?_
  refine z_callR (va_runS (As := [.int 9, .int 7, .int 7]) (rest := [.int 1, .int (-1), .int (-1), .int 9, .ref ad117, .ref ad117, .ref ad1]) ⟨hx, hb, hml, hown, hts⟩ (c_V_marksOf l D dT _ 9 7 7 (by decide) (by decide) (by decide)) ⟨callB_of 3 hts (gI gd_up gd_c q59) rfl rfl rfl (ht _ q1) (ht _ q57) hd_V_marksOf ⟨Nat.le_of_ble_eq_true rfl, Nat.le_of_ble_eq_true rfl⟩, ht _ q58⟩ (z_preS hK) rfl rfl hl.1 rfl (lv_room (Nat.le_of_ble_eq_true rfl)) d_V_init_40 ⟨Nat.le_of_ble_eq_true rfl, Nat.le_of_ble_eq_true rfl⟩) (fun v119 hv118 => ?_)
  have hv118 : v119 = .int 0 := hv118
  subst hv118
  refine z_callQ (va_runI (As := [.int 9, .int (-1), .int (-1), .int 1, .int 0]) (rest := [.ref ad117, .ref ad1]) ⟨hx, hb, hml, hown, hts⟩ (c_Type_init l D dT _ ad117 oad117 9 (-1) (-1) 1 0) ⟨callB_of 5 hts (gI gd_up gd_c q62) rfl rfl rfl (ht _ q5) (ht _ q60) hd_Type_init ⟨Nat.le_of_ble_eq_true rfl, Nat.le_of_ble_eq_true rfl⟩, rfl, ht _ q61⟩ (z_preS hK) rfl rfl hl.1 rfl (lv_room (Nat.le_of_ble_eq_true rfl)) d_V_init_43 ⟨(Nat.le_of_ble_eq_true rfl), (Nat.le_of_ble_eq_true rfl)⟩) hS (fun q9 h9 => by rw [show q9 = ad117 from h9]; exact hAad117) (fun v121 H locs hv120 hz122 hf123 hS => ?_)
  obtain ⟨rfl, oad117⟩ := hv120
  have oad117 : va_at D cls (ad117, .inr (1, [.int 9, .int (-1), .int (-1), .int 1, .int 0])) H := oad117
  have oa := oa.kept (hf123 _ oa.lt (fun h9 => neaad117 h9))
  have hN := hN.call hz122 hf123 (fun x hx h9 => by have h8 : x = ad117 := h9; omega)
  refine W.eq (g2 := F0 m 46 ls [.ref ad117, .ref ad1]) rfl ?_
  have hS0 := hS
  obtain ⟨B9, ed, b1, b2, b3, b4, b5, hct⟩ := hAT
  have hnq : ¬ B9 ad117 := fun h9 => absurd (b5 _ h9).1 (Nat.not_lt.mpr hgbad117)
  have hqa : ad117 ≠ a := (Ne.symm neaad117)
  obtain ⟨mcn, cap, g, hli, hed, hcap, hcap0, hcapm, hty9⟩ := hct.up hN.2
  have b5 : ∀ q, B9 q → q < Array.size H ∧ s.heap.size ≤ q := fun q h9 => ⟨Nat.lt_of_lt_of_le (b5 q h9).1 hN.1, (b5 q h9).2⟩
  have hT9 : allT D g 9 H := fun i hi y hy => by
    obtain ⟨x, a1, -, a3⟩ := hty9 i hi
    have e9 : x = y := Option.some.inj (a1.symm.trans hy)
    rw [e9] at a3
    exact ⟨_, a3⟩
  have hTl : ∀ i, i < 9 → ∀ y, g i = some y → y ≠ ad1 := fun i hi y hy e8 => by
    obtain ⟨x, a1, a2, -⟩ := hty9 i hi
    have e9 : x = y := Option.some.inj (a1.symm.trans hy)
    exact a2 (Or.inl (by rw [e9, e8]; exact b1))
  refine z_callQ (va_runV (C := "java/util/ArrayList") (As := [.ref ad117]) (rest := []) ⟨hx, hb, hml, hown, hts⟩ (c_add1 l D dT _ ad1 ed 9 mcn g hli cap hed hcap (by decide) hcapm hcap0 hT9 b3 ad117 [.int 9, .int (-1), .int (-1), .int 1, .int 0] oad117 (fun e9 => hnq (by rw [e9]; exact b1)) (fun e9 => hnq (by rw [e9]; exact b2)) hTl) ⟨callB_of 1 hts (gI gd_up gd_c q88) rfl rfl rfl (ht _ q4) (ht _ q85) hd_AL_add1 ⟨Nat.le_of_ble_eq_true rfl, Nat.le_of_ble_eq_true rfl⟩, ht _ q86, ht _ q87⟩ (z_preV hK (z_recv hK hli rfl)) rfl rfl hl.1 rfl (lv_room (Nat.le_of_ble_eq_true rfl)) d_V_init_46 ⟨(Nat.le_of_ble_eq_true rfl), (Nat.le_of_ble_eq_true rfl)⟩) hS (fun q9 h9 => h9.elim (fun e9 => Or.inr (by rw [e9]; exact (b5 _ b1).2)) (fun h8 => h8.elim (fun e9 => Or.inr (by rw [e9]; exact (b5 _ b2).2)) (fun h7 => Or.inr (Nat.le_trans hS0.1 h7)))) (fun v125 H locs hv124 hz126 hf127 hS => ?_)
  obtain ⟨rfl, ed', mc', cap', g', he', hli', hed', hc1, hc2, hg1, hg2⟩ := hv124
  have hAT : aT D dT a ad1 s.heap.size 10 H := aT_next b1 b2 b3 b4 oa.lt b5 hty9 hz126 hf127 oad117 hnq hqa he' hli' hed' hc1 hc2 hg1 hg2 hS0.1
  have oa := oa.kept (hf127 _ oa.lt (fun h9 => h9.elim (fun e9 => b4 (by rw [show a = ad1 from e9]; exact b1)) (fun h8 => h8.elim (fun e9 => b4 (by rw [show a = ed from e9]; exact b2)) (Nat.not_le.mpr oa.lt))))
  have hN : nU H H := nU.rf
  refine W.eq (g2 := F0 m 49 ls [.int 1]) rfl ?_
  refine lv_pop hx hb d_V_init_49 rfl ?_
  refine lv_iinc (v := 10) (lv' := [(1, .int 10), (0, .ref a)]) hx hb d_V_init_50 hl (k := 0) rfl (by decide) (by decide) rfl (fun ls hl => ?_)
  refine lv_goto (tgt := 17) hx hb d_V_init_53 (by decide) ?_
  refine lv_iload_n hx hb d_V_init_17 rfl (lv_at hl 0 rfl) ?_
  refine lv_bipush (v := 9) hx hb d_V_init_18 (by decide) ?_
  refine lv_icmp_gt (tgt := 56) hx hb d_V_init_20 (by decide) (fun _ => ?_) (fun c128 => absurd c128 (by decide))
  have hab := oa.lt
  have hsb := hS.1
  refine lv_aload_n hx hb d_V_init_56 rfl (lv_at hl 1 rfl) ?_
  refine lv_bipush (v := 16) hx hb d_V_init_57 (by decide) ?_
  have hSp := hS
  refine z_newq (C := "ValueTrees$Value") hx hb hown (ht _ q143) hK (List.mem_of_getElem? (i := 1) rfl) 3 rfl hS 16 rfl (by decide) (Nat.le_of_ble_eq_true rfl) (Nat.le_of_ble_eq_true rfl) d_V_init_59 (fun ad129 H hqad129 hzad129 oad129 hoad129 hS => ?_)
  have neaad129 : a ≠ ad129 := by rw [hqad129]; exact Nat.ne_of_lt oa.lt
  have oa := oa.grew hoad129
  have hgad129 : s.heap.size ≤ ad129 := by rw [hqad129]; exact hSp.1
  have hAad129 : (fun q => q = a ∨ s.heap.size ≤ q) ad129 := (Or.inr hgad129)
  have hgbad129 := Nat.le_trans hN.1 (Nat.le_of_eq hqad129.symm)
  have hN := hN.grew hzad129 hoad129
  refine z_putF (ci := 0) (C := "ValueTrees") (T := T_V) (N := 2) hx hb ht in_V ty_V tyk_V nm_V hown hK hS hAa oa rfl 1 (by decide) (ht _ q146) (fun _ h9 => h9) rfl hin rfl rfl rfl (Nat.le_of_ble_eq_true rfl) d_V_init_62 (fun H locs oa hz130 ho131 hS => ?_)
  have oa : va_at D cls (a, .inr (0, [.ref ad1, .ref ad129])) H := oa
  have oad129 := oad129.off ho131 (Ne.symm neaad129)
  refine z_vretQ hx hb hr hlocks d_V_init_65 hS (Nat.le_of_ble_eq_true rfl) (Nat.le_of_ble_eq_true rfl) ?_
  obtain ⟨B8, ed8, hc8, hb8⟩ := aT_fin hAT (Nat.le_trans hN.1 (Nat.le_of_eq hz130.symm)) (fun q h1 h2 => (ho131 q h2).trans (hN.2 q h1)) oa oad129 hgbad129 hab hsb
  exact ⟨rfl, B8, ad129, ad1, ed8, hc8, hb8⟩
