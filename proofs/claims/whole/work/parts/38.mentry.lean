abbrev b_M_entryEnd : ByteArray := prog_12_method_42_code
abbrev y_M_entryEnd : MethodName := ⟨"ValueTreesModel", "entryEnd", "(II)I"⟩
abbrev w_M_entryEnd : List Cond := .code y_M_entryEnd b_M_entryEnd 4 (Option.some .int) :: gt
theorem hd_M_entryEnd : (y_M_entryEnd).cls ≠ "java/lang/invoke/MethodHandle" ∧ (y_M_entryEnd).cls ≠ "java/lang/invoke/VarHandle" ∧ (parseMethodDescriptor (y_M_entryEnd).desc).map (fun d => d.parameters.length) = some 2 := by decide +kernel
theorem d_M_entryEnd_0 : decode b_M_entryEnd 0 = .ok (.aload_n 0, 1) := by decide +kernel
theorem d_M_entryEnd_1 : decode b_M_entryEnd 1 = .ok (.aload_n 0, 1) := by decide +kernel
theorem d_M_entryEnd_2 : decode b_M_entryEnd 2 = .ok (.getfield 13, 3) := by decide +kernel
theorem d_M_entryEnd_5 : decode b_M_entryEnd 5 = .ok (.iload_n 1, 1) := by decide +kernel
theorem d_M_entryEnd_6 : decode b_M_entryEnd 6 = .ok (.iaload, 1) := by decide +kernel
theorem d_M_entryEnd_7 : decode b_M_entryEnd 7 = .ok (.aload_n 0, 1) := by decide +kernel
theorem d_M_entryEnd_8 : decode b_M_entryEnd 8 = .ok (.iload_n 1, 1) := by decide +kernel
theorem d_M_entryEnd_9 : decode b_M_entryEnd 9 = .ok (.iload_n 2, 1) := by decide +kernel
theorem d_M_entryEnd_10 : decode b_M_entryEnd 10 = .ok (.invokevirtual 146, 3) := by decide +kernel
theorem d_M_entryEnd_13 : decode b_M_entryEnd 13 = .ok (.invokevirtual 78, 3) := by decide +kernel
theorem d_M_entryEnd_16 : decode b_M_entryEnd 16 = .ok (.istore_n 3, 1) := by decide +kernel
theorem d_M_entryEnd_17 : decode b_M_entryEnd 17 = .ok (.aload_n 0, 1) := by decide +kernel
theorem d_M_entryEnd_18 : decode b_M_entryEnd 18 = .ok (.iload_n 1, 1) := by decide +kernel
theorem d_M_entryEnd_19 : decode b_M_entryEnd 19 = .ok (.invokevirtual 143, 3) := by decide +kernel
theorem d_M_entryEnd_22 : decode b_M_entryEnd 22 = .ok (.ifCond .eq 17, 3) := by decide +kernel
theorem d_M_entryEnd_25 : decode b_M_entryEnd 25 = .ok (.aload_n 0, 1) := by decide +kernel
theorem d_M_entryEnd_26 : decode b_M_entryEnd 26 = .ok (.aload_n 0, 1) := by decide +kernel
theorem d_M_entryEnd_27 : decode b_M_entryEnd 27 = .ok (.getfield 16, 3) := by decide +kernel
theorem d_M_entryEnd_30 : decode b_M_entryEnd 30 = .ok (.iload_n 1, 1) := by decide +kernel
theorem d_M_entryEnd_31 : decode b_M_entryEnd 31 = .ok (.iaload, 1) := by decide +kernel
theorem d_M_entryEnd_32 : decode b_M_entryEnd 32 = .ok (.iload_n 3, 1) := by decide +kernel
theorem d_M_entryEnd_33 : decode b_M_entryEnd 33 = .ok (.invokevirtual 78, 3) := by decide +kernel
theorem d_M_entryEnd_36 : decode b_M_entryEnd 36 = .ok (.goto 4, 3) := by decide +kernel
theorem d_M_entryEnd_39 : decode b_M_entryEnd 39 = .ok (.iload_n 3, 1) := by decide +kernel
theorem d_M_entryEnd_40 : decode b_M_entryEnd 40 = .ok (.ireturn, 1) := by decide +kernel
set_option maxHeartbeats 4000000 in
set_option maxRecDepth 100000 in
theorem c_M_entryEnd (l : Launch) (D : va_G) (dT : Nat → ClassId) (H : Heap) (mm : Nat → Nat) (wd lf rt : Nat → Int32) (tc : Nat) (ty : Nat → Int32) (F : Nat → Nat) (sz : Nat → Int32) (Wk : Nat → Nat) (wz : Nat) (dg : Nat → Nat) (dc : Nat) (sh : Nat → Nat) (hM : mAt D dT mm wd lf rt tc ty F sz Wk wz dg dc sh H) (hF : ∀ k, F k < 256) (tb : Nat → TR) (hO : tOK tb tc) (hT : mT tb tc wd lf rt) (t a : Nat) (e9 : VT) (htl : t < tc) (hwd : tW (tb t) = 12 ∨ tW (tb t) = 15 ∨ tW (tb t) = 16) (hwe : wen tb t e9) (hf : fAt F a (eb e9)) (ha : a + (eb e9).length ≤ 2560) : Met l y_M_entryEnd w_M_entryEnd ({ frames := 203, cells := 0, slots := 0, locals := 4866 }) (z_P D dT [.ref (mm 0), .int (nI t), .int (nI a)] H) (z_R (fun r => r = .int (nI (a + (eb e9).length)))) 0 0 (fun _ => False) := by
  refine Met.ofW (cc := b_M_entryEnd) (maxL := 4) (ret := (Option.some .int)) (by decide) rfl ?_
  intro p e s m args below meth c s₁ B hml hv
  obtain ⟨rfl, rfl, hK⟩ := hv
  have hx := B.exec
  have hb := B.bytes
  have hr := B.returns
  have hts := atoms_spec (ws := w_M_entryEnd) B.pre
  have ht : ∀ w9 ∈ gt, w9.before [.ref (mm 0), .int (nI t), .int (nI a)].toArray s = true := fun w9 h => hts w9 (List.mem_cons_of_mem _ h)
  have hown : s.vm.findClass "ValueTreesModel" = some m.cls := findClass_of_methodNamed B.named
  have hlocks := B.notSynchronized
  have hl := lv_entry ([.ref (mm 0), .int (nI t), .int (nI a)]) (n := 4) (Nat.le_of_ble_eq_true rfl)
  rw [lg_entry_eq]
  generalize (lg_sl ([.ref (mm 0), .int (nI t), .int (nI a)]) ++ List.replicate (4 - (lg_sl ([.ref (mm 0), .int (nI t), .int (nI a)])).length) Slot.unset).toArray = ls at hl ⊢
  have hl : lv_has ls 4 [(0, .ref (mm 0)), (1, .int (nI t)), (2, .int (nI a))] := hl
  obtain ⟨e1, e2, e3⟩ := hT t htl
  have htc := hO.1
  rcases hwe with ⟨hw12, hk⟩ | ⟨hw12, k, v, rfl, hk, hvv⟩
  · obtain ⟨hL, hlt, hlp⟩ := tl_some hO htl (by omega)
    rw [hL] at e2
    have e2 : lf t = nI (lt_ tb t) := e2
    have hpl := (hO.2.2 _ (show lt_ tb t < tc by omega)).2.2.2.2.2.2.2.2.1
    have heb : eb e9 = cs e9 := by unfold eb; rw [(en_pow hk).1]; rfl
    rw [heb] at hf ha
    rw [heb]
    refine lv_aload_n hx hb d_M_entryEnd_0 rfl (lv_at hl 0 rfl) ?_
    refine lv_aload_n hx hb d_M_entryEnd_1 rfl (lv_at hl 0 rfl) ?_
    refine va_get (D := D) (ci := 10) (v := .ref (mm 2)) (C := "ValueTreesModel") (T := T_M) (N := 12) hx hb ht in_M hown hK.1 hM.1 0 rfl rfl 1 (by decide) (ht _ q540) (fun _ h9 => h9) rfl d_M_entryEnd_2 ?_
    refine lv_iload_n hx hb d_M_entryEnd_5 rfl (lv_at hl 1 rfl) ?_
    refine z_iald hx hb hK (hM.1 2 _ rfl) t rfl (by omega) (by decide) d_M_entryEnd_6 ?_
    rw [e2]
    refine lv_aload_n hx hb d_M_entryEnd_7 rfl (lv_at hl 0 rfl) ?_
    refine lv_iload_n hx hb d_M_entryEnd_8 rfl (lv_at hl 1 rfl) ?_
    refine lv_iload_n hx hb d_M_entryEnd_9 rfl (lv_at hl 2 rfl) ?_
    refine z_callR (va_runV (C := "ValueTreesModel") (As := [.int (nI t), .int (nI a)]) (rest := [.int (nI (lt_ tb t)), .ref (mm 0)]) ⟨hx, hb, hml, hown, hts⟩ (c_M_keyAt l D dT _ mm wd lf rt tc ty F sz Wk wz dg dc sh hM tb hO hT t a (by omega)) ⟨callB_of 2 hts (gI gd_up gd_c q735) rfl rfl rfl (ht _ q10) (ht _ q732) hd_M_keyAt ⟨Nat.le_of_ble_eq_true rfl, Nat.le_of_ble_eq_true rfl⟩, ht _ q734, ht _ qs37⟩ (z_preV hK (va_recv hK.1 hM.1 (ci := 10) (q0 := 0) rfl rfl)) rfl rfl hl.1 rfl (lv_room (Nat.le_of_ble_eq_true rfl)) d_M_entryEnd_10 ⟨Nat.zero_le _, Nat.zero_le _⟩) (fun v2 hv1 => ?_)
    have hv1 : v2 = .int (nI (if tW (tb t) = 12 then a else a + 2)) := hv1
    rw [if_pos hw12] at hv1
    subst hv1
    refine z_callR (va_runV (C := "ValueTreesModel") (As := [.int (nI (lt_ tb t)), .int (nI a)]) (rest := []) ⟨hx, hb, hml, hown, hts⟩ (c_M_end l D dT _ mm wd lf rt tc ty F sz Wk wz dg dc sh hM hF tb hO hT 200 (lt_ tb t) e9 a (by omega) (by omega) hk hf (by omega)) ⟨callB_of 2 hts (gI gd_up gd_c q762) rfl rfl rfl (ht _ q10) (ht _ q759) hd_M_end ⟨Nat.le_of_ble_eq_true rfl, Nat.le_of_ble_eq_true rfl⟩, ht _ q761, ht _ qs43⟩ (z_preV hK (va_recv hK.1 hM.1 (ci := 10) (q0 := 0) rfl rfl)) rfl rfl hl.1 rfl (lv_room (Nat.le_of_ble_eq_true rfl)) d_M_entryEnd_13 ⟨Nat.zero_le _, Nat.zero_le _⟩) (fun v4 hv3 => ?_)
    subst hv3
    refine lv_istore_n (lv' := [(3, .int (nI (a + (cs e9).length))), (0, .ref (mm 0)), (1, .int (nI t)), (2, .int (nI a))]) hx hb d_M_entryEnd_16 rfl hl (by decide) rfl (fun ls hl => ?_)
    refine lv_aload_n hx hb d_M_entryEnd_17 rfl (lv_at hl 1 rfl) ?_
    refine lv_iload_n hx hb d_M_entryEnd_18 rfl (lv_at hl 2 rfl) ?_
    refine z_callR (va_runV (C := "ValueTreesModel") (As := [.int (nI t)]) (rest := []) ⟨hx, hb, hml, hown, hts⟩ (c_M_isKeyed l D dT _ mm wd lf rt tc ty F sz Wk wz dg dc sh hM tb hO hT t (by omega)) ⟨callB_of 1 hts (gI gd_up gd_c q727) rfl rfl rfl (ht _ q10) (ht _ q724) hd_M_isKeyed ⟨Nat.le_of_ble_eq_true rfl, Nat.le_of_ble_eq_true rfl⟩, ht _ q726, ht _ qs35⟩ (z_preV hK (va_recv hK.1 hM.1 (ci := 10) (q0 := 0) rfl rfl)) rfl rfl hl.1 rfl (lv_room (Nat.le_of_ble_eq_true rfl)) d_M_entryEnd_19 ⟨Nat.zero_le _, Nat.zero_le _⟩) (fun v6 hv5 => ?_)
    have hv5 : v6 = .int (if ¬ tW (tb t) = 12 then 1 else 0) := hv5
    rw [if_neg (fun h9 => h9 hw12)] at hv5
    subst hv5
    refine lv_if_eq (tgt := 39) hx hb d_M_entryEnd_22 (by decide) (fun _ => ?_) (fun c8 => absurd c8 (by decide))
    refine lv_iload_n hx hb d_M_entryEnd_39 rfl (lv_at hl 0 rfl) ?_
    exact z_iretR hx hb hr hlocks d_M_entryEnd_40 (by first | rfl | (congr 2; omega))
  · obtain ⟨hL, hlt, hlp⟩ := tl_some hO htl (by omega)
    rw [hL] at e2
    have e2 : lf t = nI (lt_ tb t) := e2
    have hpl := (hO.2.2 _ (show lt_ tb t < tc by omega)).2.2.2.2.2.2.2.2.1
    obtain ⟨hRr, hrt, hrp⟩ := tr_some hO htl (by omega)
    rw [hRr] at e3
    have e3 : rt t = nI (rt_ tb t) := e3
    have hpr := (hO.2.2 _ (show rt_ tb t < tc by omega)).2.2.2.2.2.2.2.2.1
    have hle : (eb (.add k v)).length = 2 + (cs k).length + (cs v).length := by show ([7, 4] ++ (cs k ++ cs v)).length = _; simp; omega
    rw [hle] at ha
    rw [hle]
    have hf : fAt F a ([7, 4] ++ (cs k ++ cs v)) := hf
    rw [fAt_app, fAt_app] at hf
    obtain ⟨-, hfk, hfv⟩ := hf
    have hfk : fAt F (a + 2) (cs k) := hfk
    have hfv : fAt F (a + 2 + (cs k).length) (cs v) := hfv
    refine lv_aload_n hx hb d_M_entryEnd_0 rfl (lv_at hl 0 rfl) ?_
    refine lv_aload_n hx hb d_M_entryEnd_1 rfl (lv_at hl 0 rfl) ?_
    refine va_get (D := D) (ci := 10) (v := .ref (mm 2)) (C := "ValueTreesModel") (T := T_M) (N := 12) hx hb ht in_M hown hK.1 hM.1 0 rfl rfl 1 (by decide) (ht _ q540) (fun _ h9 => h9) rfl d_M_entryEnd_2 ?_
    refine lv_iload_n hx hb d_M_entryEnd_5 rfl (lv_at hl 1 rfl) ?_
    refine z_iald hx hb hK (hM.1 2 _ rfl) t rfl (by omega) (by decide) d_M_entryEnd_6 ?_
    rw [e2]
    refine lv_aload_n hx hb d_M_entryEnd_7 rfl (lv_at hl 0 rfl) ?_
    refine lv_iload_n hx hb d_M_entryEnd_8 rfl (lv_at hl 1 rfl) ?_
    refine lv_iload_n hx hb d_M_entryEnd_9 rfl (lv_at hl 2 rfl) ?_
    refine z_callR (va_runV (C := "ValueTreesModel") (As := [.int (nI t), .int (nI a)]) (rest := [.int (nI (lt_ tb t)), .ref (mm 0)]) ⟨hx, hb, hml, hown, hts⟩ (c_M_keyAt l D dT _ mm wd lf rt tc ty F sz Wk wz dg dc sh hM tb hO hT t a (by omega)) ⟨callB_of 2 hts (gI gd_up gd_c q735) rfl rfl rfl (ht _ q10) (ht _ q732) hd_M_keyAt ⟨Nat.le_of_ble_eq_true rfl, Nat.le_of_ble_eq_true rfl⟩, ht _ q734, ht _ qs37⟩ (z_preV hK (va_recv hK.1 hM.1 (ci := 10) (q0 := 0) rfl rfl)) rfl rfl hl.1 rfl (lv_room (Nat.le_of_ble_eq_true rfl)) d_M_entryEnd_10 ⟨Nat.zero_le _, Nat.zero_le _⟩) (fun v10 hv9 => ?_)
    have hv9 : v10 = .int (nI (if tW (tb t) = 12 then a else a + 2)) := hv9
    rw [if_neg hw12] at hv9
    subst hv9
    refine z_callR (va_runV (C := "ValueTreesModel") (As := [.int (nI (lt_ tb t)), .int (nI (a + 2))]) (rest := []) ⟨hx, hb, hml, hown, hts⟩ (c_M_end l D dT _ mm wd lf rt tc ty F sz Wk wz dg dc sh hM hF tb hO hT 200 (lt_ tb t) k (a + 2) (by omega) (by omega) hk hfk (by omega)) ⟨callB_of 2 hts (gI gd_up gd_c q762) rfl rfl rfl (ht _ q10) (ht _ q759) hd_M_end ⟨Nat.le_of_ble_eq_true rfl, Nat.le_of_ble_eq_true rfl⟩, ht _ q761, ht _ qs43⟩ (z_preV hK (va_recv hK.1 hM.1 (ci := 10) (q0 := 0) rfl rfl)) rfl rfl hl.1 rfl (lv_room (Nat.le_of_ble_eq_true rfl)) d_M_entryEnd_13 ⟨Nat.zero_le _, Nat.zero_le _⟩) (fun v12 hv11 => ?_)
    subst hv11
    refine lv_istore_n (lv' := [(3, .int (nI (a + 2 + (cs k).length))), (0, .ref (mm 0)), (1, .int (nI t)), (2, .int (nI a))]) hx hb d_M_entryEnd_16 rfl hl (by decide) rfl (fun ls hl => ?_)
    refine lv_aload_n hx hb d_M_entryEnd_17 rfl (lv_at hl 1 rfl) ?_
    refine lv_iload_n hx hb d_M_entryEnd_18 rfl (lv_at hl 2 rfl) ?_
    refine z_callR (va_runV (C := "ValueTreesModel") (As := [.int (nI t)]) (rest := []) ⟨hx, hb, hml, hown, hts⟩ (c_M_isKeyed l D dT _ mm wd lf rt tc ty F sz Wk wz dg dc sh hM tb hO hT t (by omega)) ⟨callB_of 1 hts (gI gd_up gd_c q727) rfl rfl rfl (ht _ q10) (ht _ q724) hd_M_isKeyed ⟨Nat.le_of_ble_eq_true rfl, Nat.le_of_ble_eq_true rfl⟩, ht _ q726, ht _ qs35⟩ (z_preV hK (va_recv hK.1 hM.1 (ci := 10) (q0 := 0) rfl rfl)) rfl rfl hl.1 rfl (lv_room (Nat.le_of_ble_eq_true rfl)) d_M_entryEnd_19 ⟨Nat.zero_le _, Nat.zero_le _⟩) (fun v14 hv13 => ?_)
    have hv13 : v14 = .int (if ¬ tW (tb t) = 12 then 1 else 0) := hv13
    rw [if_pos hw12] at hv13
    subst hv13
    refine lv_if_eq (tgt := 39) hx hb d_M_entryEnd_22 (by decide) (fun c16 => absurd c16 (by decide)) (fun _ => ?_)
    refine lv_aload_n hx hb d_M_entryEnd_25 rfl (lv_at hl 1 rfl) ?_
    refine lv_aload_n hx hb d_M_entryEnd_26 rfl (lv_at hl 1 rfl) ?_
    refine va_get (D := D) (ci := 10) (v := .ref (mm 3)) (C := "ValueTreesModel") (T := T_M) (N := 12) hx hb ht in_M hown hK.1 hM.1 0 rfl rfl 2 (by decide) (ht _ q541) (fun _ h9 => h9) rfl d_M_entryEnd_27 ?_
    refine lv_iload_n hx hb d_M_entryEnd_30 rfl (lv_at hl 2 rfl) ?_
    refine z_iald hx hb hK (hM.1 3 _ rfl) t rfl (by omega) (by decide) d_M_entryEnd_31 ?_
    rw [e3]
    refine lv_iload_n hx hb d_M_entryEnd_32 rfl (lv_at hl 0 rfl) ?_
    refine z_callR (va_runV (C := "ValueTreesModel") (As := [.int (nI (rt_ tb t)), .int (nI (a + 2 + (cs k).length))]) (rest := []) ⟨hx, hb, hml, hown, hts⟩ (c_M_end l D dT _ mm wd lf rt tc ty F sz Wk wz dg dc sh hM hF tb hO hT 200 (rt_ tb t) v (a + 2 + (cs k).length) (by omega) (by omega) hvv hfv (by omega)) ⟨callB_of 2 hts (gI gd_up gd_c q762) rfl rfl rfl (ht _ q10) (ht _ q759) hd_M_end ⟨Nat.le_of_ble_eq_true rfl, Nat.le_of_ble_eq_true rfl⟩, ht _ q761, ht _ qs43⟩ (z_preV hK (va_recv hK.1 hM.1 (ci := 10) (q0 := 0) rfl rfl)) rfl rfl hl.1 rfl (lv_room (Nat.le_of_ble_eq_true rfl)) d_M_entryEnd_33 ⟨Nat.zero_le _, Nat.zero_le _⟩) (fun v18 hv17 => ?_)
    subst hv17
    refine lv_goto (tgt := 40) hx hb d_M_entryEnd_36 (by decide) ?_
    exact z_iretR hx hb hr hlocks d_M_entryEnd_40 (by first | rfl | (congr 2; omega))
abbrev b_M_entryFor : ByteArray := prog_12_method_43_code
abbrev y_M_entryFor : MethodName := ⟨"ValueTreesModel", "entryFor", "(II)I"⟩
abbrev w_M_entryFor : List Cond := .code y_M_entryFor b_M_entryFor 6 (Option.some .int) :: gt
theorem hd_M_entryFor : (y_M_entryFor).cls ≠ "java/lang/invoke/MethodHandle" ∧ (y_M_entryFor).cls ≠ "java/lang/invoke/VarHandle" ∧ (parseMethodDescriptor (y_M_entryFor).desc).map (fun d => d.parameters.length) = some 2 := by decide +kernel
theorem d_M_entryFor_0 : decode b_M_entryFor 0 = .ok (.aload_n 0, 1) := by decide +kernel
theorem d_M_entryFor_1 : decode b_M_entryFor 1 = .ok (.getfield 19, 3) := by decide +kernel
theorem d_M_entryFor_4 : decode b_M_entryFor 4 = .ok (.iload_n 1, 1) := by decide +kernel
theorem d_M_entryFor_5 : decode b_M_entryFor 5 = .ok (.iaload, 1) := by decide +kernel
theorem d_M_entryFor_6 : decode b_M_entryFor 6 = .ok (.istore_n 3, 1) := by decide +kernel
theorem d_M_entryFor_7 : decode b_M_entryFor 7 = .ok (.iload_n 1, 1) := by decide +kernel
theorem d_M_entryFor_8 : decode b_M_entryFor 8 = .ok (.invokestatic 112, 3) := by decide +kernel
theorem d_M_entryFor_11 : decode b_M_entryFor 11 = .ok (.iconst 5, 1) := by decide +kernel
theorem d_M_entryFor_12 : decode b_M_entryFor 12 = .ok (.iadd, 1) := by decide +kernel
theorem d_M_entryFor_13 : decode b_M_entryFor 13 = .ok (.istore 4, 2) := by decide +kernel
theorem d_M_entryFor_15 : decode b_M_entryFor 15 = .ok (.iload_n 1, 1) := by decide +kernel
theorem d_M_entryFor_16 : decode b_M_entryFor 16 = .ok (.invokestatic 112, 3) := by decide +kernel
theorem d_M_entryFor_19 : decode b_M_entryFor 19 = .ok (.aload_n 0, 1) := by decide +kernel
theorem d_M_entryFor_20 : decode b_M_entryFor 20 = .ok (.getfield 26, 3) := by decide +kernel
theorem d_M_entryFor_23 : decode b_M_entryFor 23 = .ok (.iload_n 1, 1) := by decide +kernel
theorem d_M_entryFor_24 : decode b_M_entryFor 24 = .ok (.iaload, 1) := by decide +kernel
theorem d_M_entryFor_25 : decode b_M_entryFor 25 = .ok (.iadd, 1) := by decide +kernel
theorem d_M_entryFor_26 : decode b_M_entryFor 26 = .ok (.istore 5, 2) := by decide +kernel
theorem d_M_entryFor_28 : decode b_M_entryFor 28 = .ok (.iload 4, 2) := by decide +kernel
theorem d_M_entryFor_30 : decode b_M_entryFor 30 = .ok (.iload 5, 2) := by decide +kernel
theorem d_M_entryFor_32 : decode b_M_entryFor 32 = .ok (.if_icmp .ge 39, 3) := by decide +kernel
theorem d_M_entryFor_35 : decode b_M_entryFor 35 = .ok (.aload_n 0, 1) := by decide +kernel
theorem d_M_entryFor_36 : decode b_M_entryFor 36 = .ok (.aload_n 0, 1) := by decide +kernel
theorem d_M_entryFor_37 : decode b_M_entryFor 37 = .ok (.getfield 13, 3) := by decide +kernel
theorem d_M_entryFor_40 : decode b_M_entryFor 40 = .ok (.iload_n 3, 1) := by decide +kernel
theorem d_M_entryFor_41 : decode b_M_entryFor 41 = .ok (.iaload, 1) := by decide +kernel
theorem d_M_entryFor_42 : decode b_M_entryFor 42 = .ok (.aload_n 0, 1) := by decide +kernel
theorem d_M_entryFor_43 : decode b_M_entryFor 43 = .ok (.iload_n 3, 1) := by decide +kernel
theorem d_M_entryFor_44 : decode b_M_entryFor 44 = .ok (.iload 4, 2) := by decide +kernel
theorem d_M_entryFor_46 : decode b_M_entryFor 46 = .ok (.invokevirtual 146, 3) := by decide +kernel
theorem d_M_entryFor_49 : decode b_M_entryFor 49 = .ok (.iload_n 2, 1) := by decide +kernel
theorem d_M_entryFor_50 : decode b_M_entryFor 50 = .ok (.invokestatic 112, 3) := by decide +kernel
theorem d_M_entryFor_53 : decode b_M_entryFor 53 = .ok (.invokevirtual 149, 3) := by decide +kernel
theorem d_M_entryFor_56 : decode b_M_entryFor 56 = .ok (.ifCond .ge 15, 3) := by decide +kernel
theorem d_M_entryFor_59 : decode b_M_entryFor 59 = .ok (.aload_n 0, 1) := by decide +kernel
theorem d_M_entryFor_60 : decode b_M_entryFor 60 = .ok (.iload_n 3, 1) := by decide +kernel
theorem d_M_entryFor_61 : decode b_M_entryFor 61 = .ok (.iload 4, 2) := by decide +kernel
theorem d_M_entryFor_63 : decode b_M_entryFor 63 = .ok (.invokevirtual 152, 3) := by decide +kernel
theorem d_M_entryFor_66 : decode b_M_entryFor 66 = .ok (.istore 4, 2) := by decide +kernel
theorem d_M_entryFor_68 : decode b_M_entryFor 68 = .ok (.goto (-40), 3) := by decide +kernel
theorem d_M_entryFor_71 : decode b_M_entryFor 71 = .ok (.iload 4, 2) := by decide +kernel
theorem d_M_entryFor_73 : decode b_M_entryFor 73 = .ok (.ireturn, 1) := by decide +kernel
set_option maxHeartbeats 4000000 in
set_option maxRecDepth 100000 in
theorem c_M_entryFor (l : Launch) (D : va_G) (dT : Nat → ClassId) (H : Heap) (mm : Nat → Nat) (wd lf rt : Nat → Int32) (tc : Nat) (ty : Nat → Int32) (F : Nat → Nat) (sz : Nat → Int32) (Wk : Nat → Nat) (wz : Nat) (dg : Nat → Nat) (dc : Nat) (sh : Nat → Nat) (hM : mAt D dT mm wd lf rt tc ty F sz Wk wz dg dc sh H) (hF : ∀ k, F k < 256) (tb : Nat → TR) (hO : tOK tb tc) (hT : mT tb tc wd lf rt) (jt jk t : Nat) (ch kv : VT) (hjt : jt < 16) (hjk : jk < 16) (htl : t < tc) (hwd : tW (tb t) = 12 ∨ tW (tb t) = 15 ∨ tW (tb t) = 16) (hch : wty tb ch (cmd tb t) t) (hkv : wty tb kv 0 (lt_ tb t)) (ety : ty jt = nI t) (esz : sz jt = nI (5 + (cs ch).length)) (hlc : 5 + (cs ch).length ≤ 160) (hlk : (cs kv).length ≤ 160) (hfc : fAt F (160 * jt + 5) (cs ch)) (hfk : fAt F (160 * jk) (cs kv)) : Met l y_M_entryFor w_M_entryFor ({ frames := 205, cells := 0, slots := 0, locals := 5125 }) (z_P D dT [.ref (mm 0), .int (nI jt), .int (nI jk)] H) (z_Q (mA mm) (fun r H1 => r = some (.int (nI (160 * jt + 5 + (cs (prc ch kv)).length))) ∧ ∃ dg' dc' sh', mAt D dT mm wd lf rt tc ty F sz Wk wz dg' dc' sh' H1)) 0 0 (mA mm) := by
  refine Met.ofW (cc := b_M_entryFor) (maxL := 6) (ret := (Option.some .int)) (by decide) rfl ?_
  intro p e s m args below meth c s₁ B hml hv
  obtain ⟨rfl, rfl, hK⟩ := hv
  have hx := B.exec
  have hb := B.bytes
  have hr := B.returns
  have hts := atoms_spec (ws := w_M_entryFor) B.pre
  have ht : ∀ w9 ∈ gt, w9.before [.ref (mm 0), .int (nI jt), .int (nI jk)].toArray s = true := fun w9 h => hts w9 (List.mem_cons_of_mem _ h)
  have hown : s.vm.findClass "ValueTreesModel" = some m.cls := findClass_of_methodNamed B.named
  have hlocks := B.notSynchronized
  have hS : va_S (mA mm) s.heap s.heap [] := va_S.rf
  have hl := lv_entry ([.ref (mm 0), .int (nI jt), .int (nI jk)]) (n := 6) (Nat.le_of_ble_eq_true rfl)
  rw [lg_entry_eq]
  generalize (lg_sl ([.ref (mm 0), .int (nI jt), .int (nI jk)]) ++ List.replicate (6 - (lg_sl ([.ref (mm 0), .int (nI jt), .int (nI jk)])).length) Slot.unset).toArray = ls at hl ⊢
  have hl : lv_has ls 6 [(0, .ref (mm 0)), (1, .int (nI jt)), (2, .int (nI jk))] := hl
  obtain ⟨e1, e2, e3⟩ := hT t htl
  have htc := hO.1
  obtain ⟨hL, hlt, hlp⟩ := tl_some hO htl (by omega)
  rw [hL] at e2
  have e2 : lf t = nI (lt_ tb t) := e2
  have hpl := (hO.2.2 _ (show lt_ tb t < tc by omega)).2.2.2.2.2.2.2.2.1
  have hcl := tree_cmp hO htl hwd
  refine lv_aload_n hx hb d_M_entryFor_0 rfl (lv_at hl 0 rfl) ?_
  refine va_get (D := D) (ci := 10) (v := .ref (mm 4)) (C := "ValueTreesModel") (T := T_M) (N := 12) hx hb ht in_M hown hK.1 hM.1 0 rfl rfl 4 (by decide) (ht _ q543) (fun _ h9 => h9) rfl d_M_entryFor_1 ?_
  refine lv_iload_n hx hb d_M_entryFor_4 rfl (lv_at hl 1 rfl) ?_
  refine z_iald hx hb hK (hM.1 4 _ rfl) jt rfl (by omega) (by decide) d_M_entryFor_5 ?_
  rw [ety]
  refine lv_istore_n (lv' := [(3, .int (nI t)), (0, .ref (mm 0)), (1, .int (nI jt)), (2, .int (nI jk))]) hx hb d_M_entryFor_6 rfl hl (by decide) rfl (fun ls hl => ?_)
  refine lv_iload_n hx hb d_M_entryFor_7 rfl (lv_at hl 2 rfl) ?_
  refine z_callR (va_runS (As := [.int (nI jt)]) (rest := []) ⟨hx, hb, hml, hown, hts⟩ (c_M_base l D dT _ (nI jt)) ⟨callB_of 1 hts (gI gd_up gd_c q650) rfl rfl rfl (ht _ q10) (ht _ q648) hd_M_base ⟨Nat.le_of_ble_eq_true rfl, Nat.le_of_ble_eq_true rfl⟩, ht _ q649⟩ (z_preS hK) rfl rfl hl.1 rfl (lv_room (Nat.le_of_ble_eq_true rfl)) d_M_entryFor_8 ⟨Nat.zero_le _, Nat.zero_le _⟩) (fun v2 hv1 => ?_)
  subst hv1
  rw [show (160 * nI jt : Int32) = nI (160 * jt) from pk_mul 160 jt]
  refine lv_iconst (v := 5) hx hb d_M_entryFor_11 (by decide) ?_
  refine lv_iadd hx hb d_M_entryFor_12 ?_
  rw [show (((nI (160 * jt)) + 5) : Int32) = nI ((160 * jt) + 5) from nI_add (160 * jt) 5]
  refine lv_istore (lv' := [(4, .int (nI ((160 * jt) + 5))), (3, .int (nI t)), (0, .ref (mm 0)), (1, .int (nI jt)), (2, .int (nI jk))]) hx hb d_M_entryFor_13 hl (by decide) rfl (fun ls hl => ?_)
  refine lv_iload_n hx hb d_M_entryFor_15 rfl (lv_at hl 3 rfl) ?_
  refine z_callR (va_runS (As := [.int (nI jt)]) (rest := []) ⟨hx, hb, hml, hown, hts⟩ (c_M_base l D dT _ (nI jt)) ⟨callB_of 1 hts (gI gd_up gd_c q650) rfl rfl rfl (ht _ q10) (ht _ q648) hd_M_base ⟨Nat.le_of_ble_eq_true rfl, Nat.le_of_ble_eq_true rfl⟩, ht _ q649⟩ (z_preS hK) rfl rfl hl.1 rfl (lv_room (Nat.le_of_ble_eq_true rfl)) d_M_entryFor_16 ⟨Nat.zero_le _, Nat.zero_le _⟩) (fun v4 hv3 => ?_)
  subst hv3
  rw [show (160 * nI jt : Int32) = nI (160 * jt) from pk_mul 160 jt]
  refine lv_aload_n hx hb d_M_entryFor_19 rfl (lv_at hl 2 rfl) ?_
  refine va_get (D := D) (ci := 10) (v := .ref (mm 6)) (C := "ValueTreesModel") (T := T_M) (N := 12) hx hb ht in_M hown hK.1 hM.1 0 rfl rfl 6 (by decide) (ht _ q545) (fun _ h9 => h9) rfl d_M_entryFor_20 ?_
  refine lv_iload_n hx hb d_M_entryFor_23 rfl (lv_at hl 3 rfl) ?_
  refine z_iald hx hb hK (hM.1 6 _ rfl) jt rfl (by omega) (by decide) d_M_entryFor_24 ?_
  rw [esz]
  refine lv_iadd hx hb d_M_entryFor_25 ?_
  rw [show (((nI (160 * jt)) + (nI (5 + (cs ch).length))) : Int32) = nI ((160 * jt) + (5 + (cs ch).length)) from nI_add (160 * jt) (5 + (cs ch).length)]
  refine lv_istore (lv' := [(5, .int (nI ((160 * jt) + (5 + (cs ch).length)))), (4, .int (nI ((160 * jt) + 5))), (3, .int (nI t)), (0, .ref (mm 0)), (1, .int (nI jt)), (2, .int (nI jk))]) hx hb d_M_entryFor_26 hl (by decide) rfl (fun ls hl => ?_)
  have loop5 : ∀ (n289 : Nat) (rem : VT) (q : Nat), (wty tb rem (cmd tb t) t) → (q + (cs rem).length = (cs ch).length) → (fAt F (160 * jt + 5 + q) (cs rem)) → ((cs (prc ch kv)).length = q + (cs (prc rem kv)).length) → (cs rem).length < n289 → ∀ (H : Heap) (locs : List Loc) (dg : Nat → Nat) (dc : Nat) (sh : Nat → Nat), mAt D dT mm wd lf rt tc ty F sz Wk wz dg dc sh H → va_S (mA mm) s.heap H locs → ∀ (ls : Array Slot), lv_has ls 6 [(4, .int (nI (160 * jt + 5 + q))), (5, .int (nI (160 * jt + (5 + (cs ch).length)))), (3, .int (nI t)), (0, .ref (mm 0)), (1, .int (nI jt)), (2, .int (nI jk))] → W p l e (headSpec w_M_entryFor ({ frames := 205, cells := 0, slots := 0, locals := 5125 })).room s m [.ref (mm 0), .int (nI jt), .int (nI jk)].toArray below meth c H locs 0 0 (MQ below (z_Q (mA mm) (fun r H1 => r = some (.int (nI (160 * jt + 5 + (cs (prc ch kv)).length))) ∧ ∃ dg' dc' sh', mAt D dT mm wd lf rt tc ty F sz Wk wz dg' dc' sh' H1)) [.ref (mm 0), .int (nI jt), .int (nI jk)].toArray s 0 0 (mA mm)) (F0 m 28 ls []) := by
    intro n289
    induction n289 with
    | zero =>
      intro rem q hrem hq hfr hpre h289
      exact absurd h289 (Nat.not_lt_zero _)
    | succ n289 ih28 =>
      intro rem q hrem hq hfr hpre h289 H locs dg dc sh  hM hS ls hl
      refine lv_iload hx hb d_M_entryFor_28 (lv_at hl 0 rfl) ?_
      refine lv_iload hx hb d_M_entryFor_30 (lv_at hl 1 rfl) ?_
      refine lv_icmp_ge (tgt := 71) hx hb d_M_entryFor_32 (by decide) (fun c6 => ?_) (fun c6 => ?_)
      · have nc6 : (160 * jt + (5 + (cs ch).length)) ≤ (160 * jt + 5 + q) := (nI_leI (a := (160 * jt + (5 + (cs ch).length))) (b := (160 * jt + 5 + q)) (by omega) (by omega)).mp c6
        refine lv_iload hx hb d_M_entryFor_71 (lv_at hl 0 rfl) ?_
        refine z_iretQ hx hb hr hlocks d_M_entryFor_73 hS (Nat.le_refl _) (Nat.le_refl _) ?_
        refine ⟨?_, dg, dc, sh, hM⟩
        rw [hpre]
        obtain ⟨z9, rfl⟩ | ⟨e9, r9, rfl, hwe, hr9⟩ := ch_cases hrem
        · rfl
        · exact absurd hq (by have := eb_ge hwe; rw [cs_mul, List.length_append]; omega)
      · have nc6 : ¬ (160 * jt + (5 + (cs ch).length)) ≤ (160 * jt + 5 + q) := fun h9 => c6 ((nI_leI (a := (160 * jt + (5 + (cs ch).length))) (b := (160 * jt + 5 + q)) (by omega) (by omega)).mpr h9)
        obtain ⟨z9, rfl⟩ | ⟨e9, r9, rfl, hwe, hr9⟩ := ch_cases hrem
        · exact absurd hq (by show ¬ q + 0 = _; omega)
        have hge := eb_ge hwe
        have hlm : (cs (.mul e9 r9)).length = (eb e9).length + (cs r9).length := by rw [cs_mul, List.length_append]
        have hfe : fAt F (160 * jt + 5 + q) (eb e9) := by have h8 := hfr; rw [cs_mul, fAt_app] at h8; exact h8.1
        obtain ⟨hka, hkb, hkw⟩ := key_at hwe hfe
        refine lv_aload_n hx hb d_M_entryFor_35 rfl (lv_at hl 3 rfl) ?_
        refine lv_aload_n hx hb d_M_entryFor_36 rfl (lv_at hl 3 rfl) ?_
        refine va_get (D := D) (ci := 10) (v := .ref (mm 2)) (C := "ValueTreesModel") (T := T_M) (N := 12) hx hb ht in_M hown hK.1 hM.1 0 rfl rfl 1 (by decide) (ht _ q540) (fun _ h9 => h9) rfl d_M_entryFor_37 ?_
        refine lv_iload_n hx hb d_M_entryFor_40 rfl (lv_at hl 2 rfl) ?_
        refine z_iald hx hb hK (hM.1 2 _ rfl) t rfl (by omega) (by decide) d_M_entryFor_41 ?_
        rw [e2]
        refine lv_aload_n hx hb d_M_entryFor_42 rfl (lv_at hl 3 rfl) ?_
        refine lv_iload_n hx hb d_M_entryFor_43 rfl (lv_at hl 2 rfl) ?_
        refine lv_iload hx hb d_M_entryFor_44 (lv_at hl 0 rfl) ?_
        refine z_callR (va_runV (C := "ValueTreesModel") (As := [.int (nI t), .int (nI (160 * jt + 5 + q))]) (rest := [.int (nI (lt_ tb t)), .ref (mm 0)]) ⟨hx, hb, hml, hown, hts⟩ (c_M_keyAt l D dT _ mm wd lf rt tc ty F sz Wk wz dg dc sh hM tb hO hT t (160 * jt + 5 + q) (by omega)) ⟨callB_of 2 hts (gI gd_up gd_c q735) rfl rfl rfl (ht _ q10) (ht _ q732) hd_M_keyAt ⟨Nat.le_of_ble_eq_true rfl, Nat.le_of_ble_eq_true rfl⟩, ht _ q734, ht _ qs37⟩ (z_preV hK (va_recv hK.1 hM.1 (ci := 10) (q0 := 0) rfl rfl)) rfl rfl hl.1 rfl (lv_room (Nat.le_of_ble_eq_true rfl)) d_M_entryFor_46 ⟨Nat.zero_le _, Nat.zero_le _⟩) (fun v8 hv7 => ?_)
        subst hv7
        refine lv_iload_n hx hb d_M_entryFor_49 rfl (lv_at hl 5 rfl) ?_
        refine z_callR (va_runS (As := [.int (nI jk)]) (rest := [.int (nI (if tW (tb t) = 12 then 160 * jt + 5 + q else 160 * jt + 5 + q + 2)), .int (nI (lt_ tb t)), .ref (mm 0)]) ⟨hx, hb, hml, hown, hts⟩ (c_M_base l D dT _ (nI jk)) ⟨callB_of 1 hts (gI gd_up gd_c q650) rfl rfl rfl (ht _ q10) (ht _ q648) hd_M_base ⟨Nat.le_of_ble_eq_true rfl, Nat.le_of_ble_eq_true rfl⟩, ht _ q649⟩ (z_preS hK) rfl rfl hl.1 rfl (lv_room (Nat.le_of_ble_eq_true rfl)) d_M_entryFor_50 ⟨Nat.zero_le _, Nat.zero_le _⟩) (fun v10 hv9 => ?_)
        subst hv9
        rw [show (160 * nI jk : Int32) = nI (160 * jk) from pk_mul 160 jk]
        refine z_callQ (va_runV (C := "ValueTreesModel") (As := [.int (nI (lt_ tb t)), .int (nI (if tW (tb t) = 12 then 160 * jt + 5 + q else 160 * jt + 5 + q + 2)), .int (nI (160 * jk))]) (rest := []) ⟨hx, hb, hml, hown, hts⟩ (c_M_order l D dT s.heap mm wd lf rt tc ty F sz Wk wz hF tb hO hT 200 _ dg dc sh (lt_ tb t) (kyOf e9) kv (if tW (tb t) = 12 then 160 * jt + 5 + q else 160 * jt + 5 + q + 2) (160 * jk) hM (by omega) (by omega) hcl hkw hkv hka hfk (by omega) (by omega)) ⟨callB_of 3 hts (gI gd_up gd_c q739) rfl rfl rfl (ht _ q10) (ht _ q736) hd_M_order ⟨Nat.le_of_ble_eq_true rfl, Nat.le_of_ble_eq_true rfl⟩, ht _ q738, ht _ qs38⟩ (z_preV hK (va_recv hK.1 hM.1 (ci := 10) (q0 := 0) rfl rfl)) rfl rfl hl.1 rfl (lv_room (Nat.le_of_ble_eq_true rfl)) d_M_entryFor_53 ⟨Nat.le_refl _, Nat.le_refl _⟩) hS (fun _ h9 => h9) (fun v12 H locs hv11 hz13 hf14 hS => ?_)
        obtain ⟨rfl, dg, dc, sh, hM⟩ := hv11
        refine W.eq (g2 := F0 m 56 ls [.int (vo (kyOf e9) kv)]) rfl ?_
        refine lv_if_ge (tgt := 71) hx hb d_M_entryFor_56 (by decide) (fun c15 => ?_) (fun c15 => ?_)
        · refine lv_iload hx hb d_M_entryFor_71 (lv_at hl 0 rfl) ?_
          exact z_iretQ hx hb hr hlocks d_M_entryFor_73 hS (Nat.le_refl _) (Nat.le_refl _) ⟨by rw [hpre, (prc_ge (Int32.not_lt.mpr c15)).1]; rfl, dg, dc, sh, hM⟩
        · refine lv_aload_n hx hb d_M_entryFor_59 rfl (lv_at hl 3 rfl) ?_
          refine lv_iload_n hx hb d_M_entryFor_60 rfl (lv_at hl 2 rfl) ?_
          refine lv_iload hx hb d_M_entryFor_61 (lv_at hl 0 rfl) ?_
          refine z_callR (va_runV (C := "ValueTreesModel") (As := [.int (nI t), .int (nI (160 * jt + 5 + q))]) (rest := []) ⟨hx, hb, hml, hown, hts⟩ (c_M_entryEnd l D dT _ mm wd lf rt tc ty F sz Wk wz dg dc sh hM hF tb hO hT t (160 * jt + 5 + q) e9 (by omega) hwd hwe hfe (by omega)) ⟨callB_of 2 hts (gI gd_up gd_c q770) rfl rfl rfl (ht _ q10) (ht _ q767) hd_M_entryEnd ⟨Nat.le_of_ble_eq_true rfl, Nat.le_of_ble_eq_true rfl⟩, ht _ q769, ht _ qs45⟩ (z_preV hK (va_recv hK.1 hM.1 (ci := 10) (q0 := 0) rfl rfl)) rfl rfl hl.1 rfl (lv_room (Nat.le_of_ble_eq_true rfl)) d_M_entryFor_63 ⟨Nat.zero_le _, Nat.zero_le _⟩) (fun v17 hv16 => ?_)
          subst hv16
          refine lv_istore (lv' := [(4, .int (nI (160 * jt + 5 + q + (eb e9).length))), (5, .int (nI (160 * jt + (5 + (cs ch).length)))), (3, .int (nI t)), (0, .ref (mm 0)), (1, .int (nI jt)), (2, .int (nI jk))]) hx hb d_M_entryFor_66 hl (by decide) rfl (fun ls hl => ?_)
          refine lv_goto (tgt := 28) hx hb d_M_entryFor_68 (by decide) ?_
          rw [show 160 * jt + 5 + q + (eb e9).length = 160 * jt + 5 + (q + (eb e9).length) by omega] at hl
          exact ih28 r9 (q + (eb e9).length) hr9 (by rw [cs_mul, List.length_append] at hq; omega) (by rw [cs_mul, fAt_app] at hfr; rw [← Nat.add_assoc]; exact hfr.2) (by rw [hpre, (prc_lt (Int32.not_le.mp c15)).1, cs_mul, List.length_append]; omega) (by omega) _ _ dg dc sh hM hS ls (lv_sub hl [0, 1, 2, 3, 4, 5] rfl)
  exact loop5 ((cs ch).length + 1) ch 0 hch (by omega) hfc (by omega) (by omega) _ _ dg dc sh hM hS ls (lv_sub hl [1, 0, 2, 3, 4, 5] rfl)
abbrev b_M_isThere : ByteArray := prog_12_method_44_code
abbrev y_M_isThere : MethodName := ⟨"ValueTreesModel", "isThere", "(III)Z"⟩
abbrev w_M_isThere : List Cond := .code y_M_isThere b_M_isThere 4 (Option.some .boolean) :: gt
theorem hd_M_isThere : (y_M_isThere).cls ≠ "java/lang/invoke/MethodHandle" ∧ (y_M_isThere).cls ≠ "java/lang/invoke/VarHandle" ∧ (parseMethodDescriptor (y_M_isThere).desc).map (fun d => d.parameters.length) = some 3 := by decide +kernel
theorem d_M_isThere_0 : decode b_M_isThere 0 = .ok (.iload_n 2, 1) := by decide +kernel
theorem d_M_isThere_1 : decode b_M_isThere 1 = .ok (.iload_n 1, 1) := by decide +kernel
theorem d_M_isThere_2 : decode b_M_isThere 2 = .ok (.invokestatic 112, 3) := by decide +kernel
theorem d_M_isThere_5 : decode b_M_isThere 5 = .ok (.aload_n 0, 1) := by decide +kernel
theorem d_M_isThere_6 : decode b_M_isThere 6 = .ok (.getfield 26, 3) := by decide +kernel
theorem d_M_isThere_9 : decode b_M_isThere 9 = .ok (.iload_n 1, 1) := by decide +kernel
theorem d_M_isThere_10 : decode b_M_isThere 10 = .ok (.iaload, 1) := by decide +kernel
theorem d_M_isThere_11 : decode b_M_isThere 11 = .ok (.iadd, 1) := by decide +kernel
theorem d_M_isThere_12 : decode b_M_isThere 12 = .ok (.if_icmp .ge 40, 3) := by decide +kernel
theorem d_M_isThere_15 : decode b_M_isThere 15 = .ok (.aload_n 0, 1) := by decide +kernel
theorem d_M_isThere_16 : decode b_M_isThere 16 = .ok (.aload_n 0, 1) := by decide +kernel
theorem d_M_isThere_17 : decode b_M_isThere 17 = .ok (.getfield 13, 3) := by decide +kernel
theorem d_M_isThere_20 : decode b_M_isThere 20 = .ok (.aload_n 0, 1) := by decide +kernel
theorem d_M_isThere_21 : decode b_M_isThere 21 = .ok (.getfield 19, 3) := by decide +kernel
theorem d_M_isThere_24 : decode b_M_isThere 24 = .ok (.iload_n 1, 1) := by decide +kernel
theorem d_M_isThere_25 : decode b_M_isThere 25 = .ok (.iaload, 1) := by decide +kernel
theorem d_M_isThere_26 : decode b_M_isThere 26 = .ok (.iaload, 1) := by decide +kernel
theorem d_M_isThere_27 : decode b_M_isThere 27 = .ok (.aload_n 0, 1) := by decide +kernel
theorem d_M_isThere_28 : decode b_M_isThere 28 = .ok (.aload_n 0, 1) := by decide +kernel
theorem d_M_isThere_29 : decode b_M_isThere 29 = .ok (.getfield 19, 3) := by decide +kernel
theorem d_M_isThere_32 : decode b_M_isThere 32 = .ok (.iload_n 1, 1) := by decide +kernel
theorem d_M_isThere_33 : decode b_M_isThere 33 = .ok (.iaload, 1) := by decide +kernel
theorem d_M_isThere_34 : decode b_M_isThere 34 = .ok (.iload_n 2, 1) := by decide +kernel
theorem d_M_isThere_35 : decode b_M_isThere 35 = .ok (.invokevirtual 146, 3) := by decide +kernel
theorem d_M_isThere_38 : decode b_M_isThere 38 = .ok (.iload_n 3, 1) := by decide +kernel
theorem d_M_isThere_39 : decode b_M_isThere 39 = .ok (.invokestatic 112, 3) := by decide +kernel
theorem d_M_isThere_42 : decode b_M_isThere 42 = .ok (.invokevirtual 149, 3) := by decide +kernel
theorem d_M_isThere_45 : decode b_M_isThere 45 = .ok (.ifCond .ne 7, 3) := by decide +kernel
theorem d_M_isThere_48 : decode b_M_isThere 48 = .ok (.iconst 1, 1) := by decide +kernel
theorem d_M_isThere_49 : decode b_M_isThere 49 = .ok (.goto 4, 3) := by decide +kernel
theorem d_M_isThere_52 : decode b_M_isThere 52 = .ok (.iconst 0, 1) := by decide +kernel
theorem d_M_isThere_53 : decode b_M_isThere 53 = .ok (.ireturn, 1) := by decide +kernel
set_option maxHeartbeats 4000000 in
set_option maxRecDepth 100000 in
theorem c_M_isThere (l : Launch) (D : va_G) (dT : Nat → ClassId) (H : Heap) (mm : Nat → Nat) (wd lf rt : Nat → Int32) (tc : Nat) (ty : Nat → Int32) (F : Nat → Nat) (sz : Nat → Int32) (Wk : Nat → Nat) (wz : Nat) (dg : Nat → Nat) (dc : Nat) (sh : Nat → Nat) (hM : mAt D dT mm wd lf rt tc ty F sz Wk wz dg dc sh H) (hF : ∀ k, F k < 256) (tb : Nat → TR) (hO : tOK tb tc) (hT : mT tb tc wd lf rt) (jt jk t : Nat) (ch kv : VT) (hjt : jt < 16) (hjk : jk < 16) (htl : t < tc) (hwd : tW (tb t) = 12 ∨ tW (tb t) = 15 ∨ tW (tb t) = 16) (hch : wty tb ch (cmd tb t) t) (hkv : wty tb kv 0 (lt_ tb t)) (ety : ty jt = nI t) (esz : sz jt = nI (5 + (cs ch).length)) (hlc : 5 + (cs ch).length ≤ 160) (hlk : (cs kv).length ≤ 160) (hfc : fAt F (160 * jt + 5) (cs ch)) (hfk : fAt F (160 * jk) (cs kv)) (rem : VT) (q : Nat) (hrem : wty tb rem (cmd tb t) t) (hq : q + (cs rem).length = (cs ch).length) (hfr : fAt F (160 * jt + 5 + q) (cs rem)) : Met l y_M_isThere w_M_isThere ({ frames := 205, cells := 0, slots := 0, locals := 5125 }) (z_P D dT [.ref (mm 0), .int (nI jt), .int (nI (160 * jt + 5 + q)), .int (nI jk)] H) (z_Q (mA mm) (fun r H1 => r = some (.int (if thr rem kv = true then 1 else 0)) ∧ ∃ dg' dc' sh', mAt D dT mm wd lf rt tc ty F sz Wk wz dg' dc' sh' H1)) 0 0 (mA mm) := by
  refine Met.ofW (cc := b_M_isThere) (maxL := 4) (ret := (Option.some .boolean)) (by decide) rfl ?_
  intro p e s m args below meth c s₁ B hml hv
  obtain ⟨rfl, rfl, hK⟩ := hv
  have hx := B.exec
  have hb := B.bytes
  have hr := B.returns
  have hts := atoms_spec (ws := w_M_isThere) B.pre
  have ht : ∀ w9 ∈ gt, w9.before [.ref (mm 0), .int (nI jt), .int (nI (160 * jt + 5 + q)), .int (nI jk)].toArray s = true := fun w9 h => hts w9 (List.mem_cons_of_mem _ h)
  have hown : s.vm.findClass "ValueTreesModel" = some m.cls := findClass_of_methodNamed B.named
  have hlocks := B.notSynchronized
  have hS : va_S (mA mm) s.heap s.heap [] := va_S.rf
  have hl := lv_entry ([.ref (mm 0), .int (nI jt), .int (nI (160 * jt + 5 + q)), .int (nI jk)]) (n := 4) (Nat.le_of_ble_eq_true rfl)
  rw [lg_entry_eq]
  generalize (lg_sl ([.ref (mm 0), .int (nI jt), .int (nI (160 * jt + 5 + q)), .int (nI jk)]) ++ List.replicate (4 - (lg_sl ([.ref (mm 0), .int (nI jt), .int (nI (160 * jt + 5 + q)), .int (nI jk)])).length) Slot.unset).toArray = ls at hl ⊢
  have hl : lv_has ls 4 [(0, .ref (mm 0)), (1, .int (nI jt)), (2, .int (nI (160 * jt + 5 + q))), (3, .int (nI jk))] := hl
  obtain ⟨e1, e2, e3⟩ := hT t htl
  have htc := hO.1
  obtain ⟨hL, hlt, hlp⟩ := tl_some hO htl (by omega)
  rw [hL] at e2
  have e2 : lf t = nI (lt_ tb t) := e2
  have hpl := (hO.2.2 _ (show lt_ tb t < tc by omega)).2.2.2.2.2.2.2.2.1
  have hcl := tree_cmp hO htl hwd
  refine lv_iload_n hx hb d_M_isThere_0 rfl (lv_at hl 2 rfl) ?_
  refine lv_iload_n hx hb d_M_isThere_1 rfl (lv_at hl 1 rfl) ?_
  refine z_callR (va_runS (As := [.int (nI jt)]) (rest := [.int (nI (160 * jt + 5 + q))]) ⟨hx, hb, hml, hown, hts⟩ (c_M_base l D dT _ (nI jt)) ⟨callB_of 1 hts (gI gd_up gd_c q650) rfl rfl rfl (ht _ q10) (ht _ q648) hd_M_base ⟨Nat.le_of_ble_eq_true rfl, Nat.le_of_ble_eq_true rfl⟩, ht _ q649⟩ (z_preS hK) rfl rfl hl.1 rfl (lv_room (Nat.le_of_ble_eq_true rfl)) d_M_isThere_2 ⟨Nat.zero_le _, Nat.zero_le _⟩) (fun v2 hv1 => ?_)
  subst hv1
  rw [show (160 * nI jt : Int32) = nI (160 * jt) from pk_mul 160 jt]
  refine lv_aload_n hx hb d_M_isThere_5 rfl (lv_at hl 0 rfl) ?_
  refine va_get (D := D) (ci := 10) (v := .ref (mm 6)) (C := "ValueTreesModel") (T := T_M) (N := 12) hx hb ht in_M hown hK.1 hM.1 0 rfl rfl 6 (by decide) (ht _ q545) (fun _ h9 => h9) rfl d_M_isThere_6 ?_
  refine lv_iload_n hx hb d_M_isThere_9 rfl (lv_at hl 1 rfl) ?_
  refine z_iald hx hb hK (hM.1 6 _ rfl) jt rfl (by omega) (by decide) d_M_isThere_10 ?_
  rw [esz]
  refine lv_iadd hx hb d_M_isThere_11 ?_
  rw [show (((nI (160 * jt)) + (nI (5 + (cs ch).length))) : Int32) = nI ((160 * jt) + (5 + (cs ch).length)) from nI_add (160 * jt) (5 + (cs ch).length)]
  refine lv_icmp_ge (tgt := 52) hx hb d_M_isThere_12 (by decide) (fun c3 => ?_) (fun c3 => ?_)
  · have nc3 : ((160 * jt) + (5 + (cs ch).length)) ≤ (160 * jt + 5 + q) := (nI_leI (a := ((160 * jt) + (5 + (cs ch).length))) (b := (160 * jt + 5 + q)) (by omega) (by omega)).mp c3
    refine lv_iconst (v := 0) hx hb d_M_isThere_52 (by decide) ?_
    refine z_zretQ hx hb hr hlocks d_M_isThere_53 rfl hS (Nat.le_refl _) (Nat.le_refl _) ?_
    refine ⟨?_, dg, dc, sh, hM⟩
    obtain ⟨z9, rfl⟩ | ⟨e9, r9, rfl, hwe, hr9⟩ := ch_cases hrem
    · rfl
    · exact absurd hq (by have := eb_ge hwe; rw [cs_mul, List.length_append]; omega)
  · have nc3 : ¬ ((160 * jt) + (5 + (cs ch).length)) ≤ (160 * jt + 5 + q) := fun h9 => c3 ((nI_leI (a := ((160 * jt) + (5 + (cs ch).length))) (b := (160 * jt + 5 + q)) (by omega) (by omega)).mpr h9)
    obtain ⟨z9, rfl⟩ | ⟨e9, r9, rfl, hwe, hr9⟩ := ch_cases hrem
    · exact absurd hq (by show ¬ q + 0 = _; omega)
    have hge := eb_ge hwe
    have hlm : (cs (.mul e9 r9)).length = (eb e9).length + (cs r9).length := by rw [cs_mul, List.length_append]
    have hfe : fAt F (160 * jt + 5 + q) (eb e9) := by have h8 := hfr; rw [cs_mul, fAt_app] at h8; exact h8.1
    obtain ⟨hka, hkb, hkw⟩ := key_at hwe hfe
    refine lv_aload_n hx hb d_M_isThere_15 rfl (lv_at hl 0 rfl) ?_
    refine lv_aload_n hx hb d_M_isThere_16 rfl (lv_at hl 0 rfl) ?_
    refine va_get (D := D) (ci := 10) (v := .ref (mm 2)) (C := "ValueTreesModel") (T := T_M) (N := 12) hx hb ht in_M hown hK.1 hM.1 0 rfl rfl 1 (by decide) (ht _ q540) (fun _ h9 => h9) rfl d_M_isThere_17 ?_
    refine lv_aload_n hx hb d_M_isThere_20 rfl (lv_at hl 0 rfl) ?_
    refine va_get (D := D) (ci := 10) (v := .ref (mm 4)) (C := "ValueTreesModel") (T := T_M) (N := 12) hx hb ht in_M hown hK.1 hM.1 0 rfl rfl 4 (by decide) (ht _ q543) (fun _ h9 => h9) rfl d_M_isThere_21 ?_
    refine lv_iload_n hx hb d_M_isThere_24 rfl (lv_at hl 1 rfl) ?_
    refine z_iald hx hb hK (hM.1 4 _ rfl) jt rfl (by omega) (by decide) d_M_isThere_25 ?_
    rw [ety]
    refine z_iald hx hb hK (hM.1 2 _ rfl) t rfl (by omega) (by decide) d_M_isThere_26 ?_
    rw [e2]
    refine lv_aload_n hx hb d_M_isThere_27 rfl (lv_at hl 0 rfl) ?_
    refine lv_aload_n hx hb d_M_isThere_28 rfl (lv_at hl 0 rfl) ?_
    refine va_get (D := D) (ci := 10) (v := .ref (mm 4)) (C := "ValueTreesModel") (T := T_M) (N := 12) hx hb ht in_M hown hK.1 hM.1 0 rfl rfl 4 (by decide) (ht _ q543) (fun _ h9 => h9) rfl d_M_isThere_29 ?_
    refine lv_iload_n hx hb d_M_isThere_32 rfl (lv_at hl 1 rfl) ?_
    refine z_iald hx hb hK (hM.1 4 _ rfl) jt rfl (by omega) (by decide) d_M_isThere_33 ?_
    rw [ety]
    refine lv_iload_n hx hb d_M_isThere_34 rfl (lv_at hl 2 rfl) ?_
    refine z_callR (va_runV (C := "ValueTreesModel") (As := [.int (nI t), .int (nI (160 * jt + 5 + q))]) (rest := [.int (nI (lt_ tb t)), .ref (mm 0)]) ⟨hx, hb, hml, hown, hts⟩ (c_M_keyAt l D dT _ mm wd lf rt tc ty F sz Wk wz dg dc sh hM tb hO hT t (160 * jt + 5 + q) (by omega)) ⟨callB_of 2 hts (gI gd_up gd_c q735) rfl rfl rfl (ht _ q10) (ht _ q732) hd_M_keyAt ⟨Nat.le_of_ble_eq_true rfl, Nat.le_of_ble_eq_true rfl⟩, ht _ q734, ht _ qs37⟩ (z_preV hK (va_recv hK.1 hM.1 (ci := 10) (q0 := 0) rfl rfl)) rfl rfl hl.1 rfl (lv_room (Nat.le_of_ble_eq_true rfl)) d_M_isThere_35 ⟨Nat.zero_le _, Nat.zero_le _⟩) (fun v5 hv4 => ?_)
    subst hv4
    refine lv_iload_n hx hb d_M_isThere_38 rfl (lv_at hl 3 rfl) ?_
    refine z_callR (va_runS (As := [.int (nI jk)]) (rest := [.int (nI (if tW (tb t) = 12 then 160 * jt + 5 + q else 160 * jt + 5 + q + 2)), .int (nI (lt_ tb t)), .ref (mm 0)]) ⟨hx, hb, hml, hown, hts⟩ (c_M_base l D dT _ (nI jk)) ⟨callB_of 1 hts (gI gd_up gd_c q650) rfl rfl rfl (ht _ q10) (ht _ q648) hd_M_base ⟨Nat.le_of_ble_eq_true rfl, Nat.le_of_ble_eq_true rfl⟩, ht _ q649⟩ (z_preS hK) rfl rfl hl.1 rfl (lv_room (Nat.le_of_ble_eq_true rfl)) d_M_isThere_39 ⟨Nat.zero_le _, Nat.zero_le _⟩) (fun v7 hv6 => ?_)
    subst hv6
    rw [show (160 * nI jk : Int32) = nI (160 * jk) from pk_mul 160 jk]
    refine z_callQ (va_runV (C := "ValueTreesModel") (As := [.int (nI (lt_ tb t)), .int (nI (if tW (tb t) = 12 then 160 * jt + 5 + q else 160 * jt + 5 + q + 2)), .int (nI (160 * jk))]) (rest := []) ⟨hx, hb, hml, hown, hts⟩ (c_M_order l D dT s.heap mm wd lf rt tc ty F sz Wk wz hF tb hO hT 200 _ dg dc sh (lt_ tb t) (kyOf e9) kv (if tW (tb t) = 12 then 160 * jt + 5 + q else 160 * jt + 5 + q + 2) (160 * jk) hM (by omega) (by omega) hcl hkw hkv hka hfk (by omega) (by omega)) ⟨callB_of 3 hts (gI gd_up gd_c q739) rfl rfl rfl (ht _ q10) (ht _ q736) hd_M_order ⟨Nat.le_of_ble_eq_true rfl, Nat.le_of_ble_eq_true rfl⟩, ht _ q738, ht _ qs38⟩ (z_preV hK (va_recv hK.1 hM.1 (ci := 10) (q0 := 0) rfl rfl)) rfl rfl hl.1 rfl (lv_room (Nat.le_of_ble_eq_true rfl)) d_M_isThere_42 ⟨Nat.le_refl _, Nat.le_refl _⟩) hS (fun _ h9 => h9) (fun v9 H locs hv8 hz10 hf11 hS => ?_)
    obtain ⟨rfl, dg, dc, sh, hM⟩ := hv8
    refine W.eq (g2 := F0 m 45 ls [.int (vo (kyOf e9) kv)]) rfl ?_
    refine lv_if_ne (tgt := 52) hx hb d_M_isThere_45 (by decide) (fun c12 => ?_) (fun c12 => ?_)
    · refine lv_iconst (v := 0) hx hb d_M_isThere_52 (by decide) ?_
      exact z_zretQ hx hb hr hlocks d_M_isThere_53 rfl hS (Nat.le_refl _) (Nat.le_refl _) ⟨by show _ = some (Value.int (if decide (vo (kyOf e9) kv = 0) = true then 1 else 0)); simp [c12], dg, dc, sh, hM⟩
    · refine lv_iconst (v := 1) hx hb d_M_isThere_48 (by decide) ?_
      refine lv_goto (tgt := 53) hx hb d_M_isThere_49 (by decide) ?_
      exact z_zretQ hx hb hr hlocks d_M_isThere_53 rfl hS (Nat.le_refl _) (Nat.le_refl _) ⟨by show _ = some (Value.int (if decide (vo (kyOf e9) kv = 0) = true then 1 else 0)); simp [c12], dg, dc, sh, hM⟩
/-- a set or map and a key of its type -/
def aTK (tb : Nat → TR) (RV : Nat → Option VT) (a b : Int32) : Bool := match rgs RV a, rgs RV b with | some v, some k => decide (tW (tb (vty v)) = 12 ∨ tW (tb (vty v)) = 15 ∨ tW (tb (vty v)) = 16) && decide (vty k = lt_ tb (vty v)) | _, _ => false
abbrev b_M_areTreeAndKey : ByteArray := prog_12_method_45_code
abbrev y_M_areTreeAndKey : MethodName := ⟨"ValueTreesModel", "areTreeAndKey", "(II)Z"⟩
abbrev w_M_areTreeAndKey : List Cond := .code y_M_areTreeAndKey b_M_areTreeAndKey 3 (Option.some .boolean) :: gt
theorem hd_M_areTreeAndKey : (y_M_areTreeAndKey).cls ≠ "java/lang/invoke/MethodHandle" ∧ (y_M_areTreeAndKey).cls ≠ "java/lang/invoke/VarHandle" ∧ (parseMethodDescriptor (y_M_areTreeAndKey).desc).map (fun d => d.parameters.length) = some 2 := by decide +kernel
theorem d_M_areTreeAndKey_0 : decode b_M_areTreeAndKey 0 = .ok (.aload_n 0, 1) := by decide +kernel
theorem d_M_areTreeAndKey_1 : decode b_M_areTreeAndKey 1 = .ok (.iload_n 1, 1) := by decide +kernel
theorem d_M_areTreeAndKey_2 : decode b_M_areTreeAndKey 2 = .ok (.invokevirtual 124, 3) := by decide +kernel
theorem d_M_areTreeAndKey_5 : decode b_M_areTreeAndKey 5 = .ok (.invokestatic 136, 3) := by decide +kernel
theorem d_M_areTreeAndKey_8 : decode b_M_areTreeAndKey 8 = .ok (.ifCond .eq 35, 3) := by decide +kernel
theorem d_M_areTreeAndKey_11 : decode b_M_areTreeAndKey 11 = .ok (.aload_n 0, 1) := by decide +kernel
theorem d_M_areTreeAndKey_12 : decode b_M_areTreeAndKey 12 = .ok (.iload_n 2, 1) := by decide +kernel
theorem d_M_areTreeAndKey_13 : decode b_M_areTreeAndKey 13 = .ok (.invokevirtual 69, 3) := by decide +kernel
theorem d_M_areTreeAndKey_16 : decode b_M_areTreeAndKey 16 = .ok (.ifCond .eq 27, 3) := by decide +kernel
theorem d_M_areTreeAndKey_19 : decode b_M_areTreeAndKey 19 = .ok (.aload_n 0, 1) := by decide +kernel
theorem d_M_areTreeAndKey_20 : decode b_M_areTreeAndKey 20 = .ok (.getfield 19, 3) := by decide +kernel
theorem d_M_areTreeAndKey_23 : decode b_M_areTreeAndKey 23 = .ok (.iload_n 2, 1) := by decide +kernel
theorem d_M_areTreeAndKey_24 : decode b_M_areTreeAndKey 24 = .ok (.iaload, 1) := by decide +kernel
theorem d_M_areTreeAndKey_25 : decode b_M_areTreeAndKey 25 = .ok (.aload_n 0, 1) := by decide +kernel
theorem d_M_areTreeAndKey_26 : decode b_M_areTreeAndKey 26 = .ok (.getfield 13, 3) := by decide +kernel
theorem d_M_areTreeAndKey_29 : decode b_M_areTreeAndKey 29 = .ok (.aload_n 0, 1) := by decide +kernel
theorem d_M_areTreeAndKey_30 : decode b_M_areTreeAndKey 30 = .ok (.getfield 19, 3) := by decide +kernel
theorem d_M_areTreeAndKey_33 : decode b_M_areTreeAndKey 33 = .ok (.iload_n 1, 1) := by decide +kernel
theorem d_M_areTreeAndKey_34 : decode b_M_areTreeAndKey 34 = .ok (.iaload, 1) := by decide +kernel
theorem d_M_areTreeAndKey_35 : decode b_M_areTreeAndKey 35 = .ok (.iaload, 1) := by decide +kernel
theorem d_M_areTreeAndKey_36 : decode b_M_areTreeAndKey 36 = .ok (.if_icmp .ne 7, 3) := by decide +kernel
theorem d_M_areTreeAndKey_39 : decode b_M_areTreeAndKey 39 = .ok (.iconst 1, 1) := by decide +kernel
theorem d_M_areTreeAndKey_40 : decode b_M_areTreeAndKey 40 = .ok (.goto 4, 3) := by decide +kernel
theorem d_M_areTreeAndKey_43 : decode b_M_areTreeAndKey 43 = .ok (.iconst 0, 1) := by decide +kernel
theorem d_M_areTreeAndKey_44 : decode b_M_areTreeAndKey 44 = .ok (.ireturn, 1) := by decide +kernel
set_option maxHeartbeats 4000000 in
set_option maxRecDepth 100000 in
theorem c_M_areTreeAndKey (l : Launch) (D : va_G) (dT : Nat → ClassId) (H : Heap) (mm : Nat → Nat) (wd lf rt : Nat → Int32) (tc : Nat) (ty : Nat → Int32) (F : Nat → Nat) (sz : Nat → Int32) (Wk : Nat → Nat) (wz : Nat) (dg : Nat → Nat) (dc : Nat) (sh : Nat → Nat) (hM : mAt D dT mm wd lf rt tc ty F sz Wk wz dg dc sh H) (tb : Nat → TR) (hO : tOK tb tc) (hT : mT tb tc wd lf rt) (RV : Nat → Option VT) (hR : mR tc tb ty sz F RV) (tree key : Int32) : Met l y_M_areTreeAndKey w_M_areTreeAndKey ({ frames := 3, cells := 0, slots := 0, locals := 62 }) (z_P D dT [.ref (mm 0), .int tree, .int key] H) (z_R (fun v => v = .int (if aTK tb RV tree key = true then 1 else 0))) 0 0 (fun _ => False) := by
  refine Met.ofW (cc := b_M_areTreeAndKey) (maxL := 3) (ret := (Option.some .boolean)) (by decide) rfl ?_
  intro p e s m args below meth c s₁ B hml hv
  obtain ⟨rfl, rfl, hK⟩ := hv
  have hx := B.exec
  have hb := B.bytes
  have hr := B.returns
  have hts := atoms_spec (ws := w_M_areTreeAndKey) B.pre
  have ht : ∀ w9 ∈ gt, w9.before [.ref (mm 0), .int tree, .int key].toArray s = true := fun w9 h => hts w9 (List.mem_cons_of_mem _ h)
  have hown : s.vm.findClass "ValueTreesModel" = some m.cls := findClass_of_methodNamed B.named
  have hlocks := B.notSynchronized
  have hl := lv_entry ([.ref (mm 0), .int tree, .int key]) (n := 3) (Nat.le_of_ble_eq_true rfl)
  rw [lg_entry_eq]
  generalize (lg_sl ([.ref (mm 0), .int tree, .int key]) ++ List.replicate (3 - (lg_sl ([.ref (mm 0), .int tree, .int key])).length) Slot.unset).toArray = ls at hl ⊢
  have hl : lv_has ls 3 [(0, .ref (mm 0)), (1, .int tree), (2, .int key)] := hl
  have htc := hO.1
  refine lv_aload_n hx hb d_M_areTreeAndKey_0 rfl (lv_at hl 0 rfl) ?_
  refine lv_iload_n hx hb d_M_areTreeAndKey_1 rfl (lv_at hl 1 rfl) ?_
  refine z_callR (va_runV (C := "ValueTreesModel") (As := [.int tree]) (rest := []) ⟨hx, hb, hml, hown, hts⟩ (c_M_wordOf l D dT _ mm wd lf rt tc ty F sz Wk wz dg dc sh hM tb hO hT RV hR tree) ⟨callB_of 1 hts (gI gd_up gd_c q658) rfl rfl rfl (ht _ q10) (ht _ q655) hd_M_wordOf ⟨Nat.le_of_ble_eq_true rfl, Nat.le_of_ble_eq_true rfl⟩, ht _ q657, ht _ qs26⟩ (z_preV hK (va_recv hK.1 hM.1 (ci := 10) (q0 := 0) rfl rfl)) rfl rfl hl.1 rfl (lv_room (Nat.le_of_ble_eq_true rfl)) d_M_areTreeAndKey_2 ⟨Nat.zero_le _, Nat.zero_le _⟩) (fun v2 hv1 => ?_)
  have hv1 : v2 = .int (match rgs RV tree with | none => -1 | some v => nI (tW (tb (vty v)))) := hv1
  cases hr3 : rgs RV tree with
  | none =>
    rw [hr3] at hv1
    subst hv1
    try dsimp only
    refine W.eq (g2 := F0 m 5 ls [.int (-1)]) rfl ?_
    refine z_callR (va_runS (As := [.int (-1)]) (rest := []) ⟨hx, hb, hml, hown, hts⟩ (c_M_isTree l D dT _ (-1)) ⟨callB_of 1 hts (gI gd_up gd_c q699) rfl rfl rfl (ht _ q10) (ht _ q697) hd_M_isTree ⟨Nat.le_of_ble_eq_true rfl, Nat.le_of_ble_eq_true rfl⟩, ht _ q698⟩ (z_preS hK) rfl rfl hl.1 rfl (lv_room (Nat.le_of_ble_eq_true rfl)) d_M_areTreeAndKey_5 ⟨Nat.zero_le _, Nat.zero_le _⟩) (fun v7 hv6 => ?_)
    have hv6 : v7 = .int (if isTr (-1) then 1 else 0) := hv6
    rw [if_neg (by decide)] at hv6
    subst hv6
    refine lv_if_eq (tgt := 43) hx hb d_M_areTreeAndKey_8 (by decide) (fun _ => ?_) (fun c9 => absurd c9 (by decide))
    refine lv_iconst (v := 0) hx hb d_M_areTreeAndKey_43 (by decide) ?_
    exact z_zretR hx hb hr hlocks d_M_areTreeAndKey_44 rfl (by unfold aTK; rw [hr3]; rfl)
  | some v4 =>
    rw [hr3] at hv1
    subst hv1
    refine W.eq (g2 := F0 m 5 ls [.int (nI (tW (tb (vty v4))))]) rfl ?_
    obtain ⟨j5, hj5, rfl, hV4⟩ := rgs_some hr3
    obtain ⟨ht4, et4, hw4, es4, hn4, hf4⟩ := mR_some hR hj5 hV4
    refine z_callR (va_runS (As := [.int (nI (tW (tb (vty v4))))]) (rest := []) ⟨hx, hb, hml, hown, hts⟩ (c_M_isTree l D dT _ (nI (tW (tb (vty v4))))) ⟨callB_of 1 hts (gI gd_up gd_c q699) rfl rfl rfl (ht _ q10) (ht _ q697) hd_M_isTree ⟨Nat.le_of_ble_eq_true rfl, Nat.le_of_ble_eq_true rfl⟩, ht _ q698⟩ (z_preS hK) rfl rfl hl.1 rfl (lv_room (Nat.le_of_ble_eq_true rfl)) d_M_areTreeAndKey_5 ⟨Nat.zero_le _, Nat.zero_le _⟩) (fun v11 hv10 => ?_)
    have hv10 : v11 = .int (if isTr (nI (tW (tb (vty v4)))) then 1 else 0) := hv10
    rcases Classical.em (isTr (nI (tW (tb (vty v4))))) with hq12 | hq12
    · rw [if_pos hq12] at hv10
      subst hv10
      refine lv_if_eq (tgt := 43) hx hb d_M_areTreeAndKey_8 (by decide) (fun c13 => absurd c13 (by decide)) (fun _ => ?_)
      refine lv_aload_n hx hb d_M_areTreeAndKey_11 rfl (lv_at hl 0 rfl) ?_
      refine lv_iload_n hx hb d_M_areTreeAndKey_12 rfl (lv_at hl 2 rfl) ?_
      refine z_callR (va_runV (C := "ValueTreesModel") (As := [.int key]) (rest := []) ⟨hx, hb, hml, hown, hts⟩ (c_M_hasValue l D dT _ mm wd lf rt tc ty F sz Wk wz dg dc sh hM tb hO hT RV hR key) ⟨callB_of 1 hts (gI gd_up gd_c q662) rfl rfl rfl (ht _ q10) (ht _ q659) hd_M_hasValue ⟨Nat.le_of_ble_eq_true rfl, Nat.le_of_ble_eq_true rfl⟩, ht _ q661, ht _ qs27⟩ (z_preV hK (va_recv hK.1 hM.1 (ci := 10) (q0 := 0) rfl rfl)) rfl rfl hl.1 rfl (lv_room (Nat.le_of_ble_eq_true rfl)) d_M_areTreeAndKey_13 ⟨Nat.zero_le _, Nat.zero_le _⟩) (fun v15 hv14 => ?_)
      have hv14 : v15 = .int (if (rgs RV key).isSome = true then 1 else 0) := hv14
      cases hr16 : rgs RV key with
      | none =>
        rw [hr16] at hv14
        subst hv14
        try dsimp only
        refine W.eq (g2 := F0 m 16 ls [.int 0]) rfl ?_
        refine lv_if_eq (tgt := 43) hx hb d_M_areTreeAndKey_16 (by decide) (fun _ => ?_) (fun c19 => absurd c19 (by decide))
        refine lv_iconst (v := 0) hx hb d_M_areTreeAndKey_43 (by decide) ?_
        exact z_zretR hx hb hr hlocks d_M_areTreeAndKey_44 rfl (by unfold aTK; simp [hr3, hr16])
      | some v17 =>
        rw [hr16] at hv14
        subst hv14
        refine W.eq (g2 := F0 m 16 ls [.int 1]) rfl ?_
        obtain ⟨j18, hj18, rfl, hV17⟩ := rgs_some hr16
        obtain ⟨ht17, et17, hw17, es17, hn17, hf17⟩ := mR_some hR hj18 hV17
        refine lv_if_eq (tgt := 43) hx hb d_M_areTreeAndKey_16 (by decide) (fun c20 => absurd c20 (by decide)) (fun _ => ?_)
        have hwd := (isTr_nI (by have := (hO.2.2 _ ht4).1; omega)).mp hq12
        obtain ⟨hL, hlt, hlp⟩ := tl_some hO ht4 (by omega)
        have e2 := (hT _ ht4).2.1
        rw [hL] at e2
        have e2 : lf (vty v4) = nI (lt_ tb (vty v4)) := e2
        refine lv_aload_n hx hb d_M_areTreeAndKey_19 rfl (lv_at hl 0 rfl) ?_
        refine va_get (D := D) (ci := 10) (v := .ref (mm 4)) (C := "ValueTreesModel") (T := T_M) (N := 12) hx hb ht in_M hown hK.1 hM.1 0 rfl rfl 4 (by decide) (ht _ q543) (fun _ h9 => h9) rfl d_M_areTreeAndKey_20 ?_
        refine lv_iload_n hx hb d_M_areTreeAndKey_23 rfl (lv_at hl 2 rfl) ?_
        refine z_iald hx hb hK (hM.1 4 _ rfl) j18 rfl (by omega) (by decide) d_M_areTreeAndKey_24 ?_
        rw [et17]
        refine lv_aload_n hx hb d_M_areTreeAndKey_25 rfl (lv_at hl 0 rfl) ?_
        refine va_get (D := D) (ci := 10) (v := .ref (mm 2)) (C := "ValueTreesModel") (T := T_M) (N := 12) hx hb ht in_M hown hK.1 hM.1 0 rfl rfl 1 (by decide) (ht _ q540) (fun _ h9 => h9) rfl d_M_areTreeAndKey_26 ?_
        refine lv_aload_n hx hb d_M_areTreeAndKey_29 rfl (lv_at hl 0 rfl) ?_
        refine va_get (D := D) (ci := 10) (v := .ref (mm 4)) (C := "ValueTreesModel") (T := T_M) (N := 12) hx hb ht in_M hown hK.1 hM.1 0 rfl rfl 4 (by decide) (ht _ q543) (fun _ h9 => h9) rfl d_M_areTreeAndKey_30 ?_
        refine lv_iload_n hx hb d_M_areTreeAndKey_33 rfl (lv_at hl 1 rfl) ?_
        refine z_iald hx hb hK (hM.1 4 _ rfl) j5 rfl (by omega) (by decide) d_M_areTreeAndKey_34 ?_
        rw [et4]
        refine z_iald hx hb hK (hM.1 2 _ rfl) (vty v4) rfl (by omega) (by decide) d_M_areTreeAndKey_35 ?_
        rw [e2]
        refine lv_icmp_ne (tgt := 43) hx hb d_M_areTreeAndKey_36 (by decide) (fun c21 => ?_) (fun c21 => ?_)
        · have nc21 : ¬ (vty v17) = (lt_ tb (vty v4)) := fun h9 => c21 ((nI_eq (a := (vty v17)) (b := (lt_ tb (vty v4))) (by omega) (by omega)).mpr h9)
          refine lv_iconst (v := 0) hx hb d_M_areTreeAndKey_43 (by decide) ?_
          exact z_zretR hx hb hr hlocks d_M_areTreeAndKey_44 rfl (by unfold aTK; simp [hr3, hr16, nc21, hwd])
        · have nc21 : (vty v17) = (lt_ tb (vty v4)) := (nI_eq (a := (vty v17)) (b := (lt_ tb (vty v4))) (by omega) (by omega)).mp c21
          refine lv_iconst (v := 1) hx hb d_M_areTreeAndKey_39 (by decide) ?_
          refine lv_goto (tgt := 44) hx hb d_M_areTreeAndKey_40 (by decide) ?_
          exact z_zretR hx hb hr hlocks d_M_areTreeAndKey_44 rfl (by unfold aTK; simp [hr3, hr16, nc21, hwd])
    · rw [if_neg hq12] at hv10
      subst hv10
      refine lv_if_eq (tgt := 43) hx hb d_M_areTreeAndKey_8 (by decide) (fun _ => ?_) (fun c22 => absurd c22 (by decide))
      refine lv_iconst (v := 0) hx hb d_M_areTreeAndKey_43 (by decide) ?_
      exact z_zretR hx hb hr hlocks d_M_areTreeAndKey_44 rfl (by unfold aTK; rw [hr3]; cases rgs RV key with | none => rfl | some k9 => simp; intro h9; exact absurd ((isTr_nI (by have := (hO.2.2 _ ht4).1; omega)).mpr h9) hq12)
