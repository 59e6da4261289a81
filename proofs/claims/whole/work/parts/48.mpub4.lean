abbrev b_M_put : ByteArray := prog_12_method_47_code
abbrev y_M_put : MethodName := ⟨"ValueTreesModel", "put", "(IIII)I"⟩
abbrev w_M_put : List Cond := .code y_M_put b_M_put 7 (Option.some .int) :: gt
theorem hd_M_put : (y_M_put).cls ≠ "java/lang/invoke/MethodHandle" ∧ (y_M_put).cls ≠ "java/lang/invoke/VarHandle" ∧ (parseMethodDescriptor (y_M_put).desc).map (fun d => d.parameters.length) = some 4 := by decide +kernel
theorem d_M_put_0 : decode b_M_put 0 = .ok (.iload_n 1, 1) := by decide +kernel
theorem d_M_put_1 : decode b_M_put 1 = .ok (.invokestatic 66, 3) := by decide +kernel
theorem d_M_put_4 : decode b_M_put 4 = .ok (.ifCond .eq 12, 3) := by decide +kernel
theorem d_M_put_7 : decode b_M_put 7 = .ok (.aload_n 0, 1) := by decide +kernel
theorem d_M_put_8 : decode b_M_put 8 = .ok (.iload_n 2, 1) := by decide +kernel
theorem d_M_put_9 : decode b_M_put 9 = .ok (.iload_n 3, 1) := by decide +kernel
theorem d_M_put_10 : decode b_M_put 10 = .ok (.invokevirtual 155, 3) := by decide +kernel
theorem d_M_put_13 : decode b_M_put 13 = .ok (.ifCond .ne 5, 3) := by decide +kernel
theorem d_M_put_16 : decode b_M_put 16 = .ok (.iconst (-1), 1) := by decide +kernel
theorem d_M_put_17 : decode b_M_put 17 = .ok (.ireturn, 1) := by decide +kernel
theorem d_M_put_18 : decode b_M_put 18 = .ok (.aload_n 0, 1) := by decide +kernel
theorem d_M_put_19 : decode b_M_put 19 = .ok (.aload_n 0, 1) := by decide +kernel
theorem d_M_put_20 : decode b_M_put 20 = .ok (.getfield 19, 3) := by decide +kernel
theorem d_M_put_23 : decode b_M_put 23 = .ok (.iload_n 2, 1) := by decide +kernel
theorem d_M_put_24 : decode b_M_put 24 = .ok (.iaload, 1) := by decide +kernel
theorem d_M_put_25 : decode b_M_put 25 = .ok (.invokevirtual 143, 3) := by decide +kernel
theorem d_M_put_28 : decode b_M_put 28 = .ok (.ifCond .eq 35, 3) := by decide +kernel
theorem d_M_put_31 : decode b_M_put 31 = .ok (.aload_n 0, 1) := by decide +kernel
theorem d_M_put_32 : decode b_M_put 32 = .ok (.iload 4, 2) := by decide +kernel
theorem d_M_put_34 : decode b_M_put 34 = .ok (.invokevirtual 69, 3) := by decide +kernel
theorem d_M_put_37 : decode b_M_put 37 = .ok (.ifCond .eq 24, 3) := by decide +kernel
theorem d_M_put_40 : decode b_M_put 40 = .ok (.aload_n 0, 1) := by decide +kernel
theorem d_M_put_41 : decode b_M_put 41 = .ok (.getfield 19, 3) := by decide +kernel
theorem d_M_put_44 : decode b_M_put 44 = .ok (.iload 4, 2) := by decide +kernel
theorem d_M_put_46 : decode b_M_put 46 = .ok (.iaload, 1) := by decide +kernel
theorem d_M_put_47 : decode b_M_put 47 = .ok (.aload_n 0, 1) := by decide +kernel
theorem d_M_put_48 : decode b_M_put 48 = .ok (.getfield 16, 3) := by decide +kernel
theorem d_M_put_51 : decode b_M_put 51 = .ok (.aload_n 0, 1) := by decide +kernel
theorem d_M_put_52 : decode b_M_put 52 = .ok (.getfield 19, 3) := by decide +kernel
theorem d_M_put_55 : decode b_M_put 55 = .ok (.iload_n 2, 1) := by decide +kernel
theorem d_M_put_56 : decode b_M_put 56 = .ok (.iaload, 1) := by decide +kernel
theorem d_M_put_57 : decode b_M_put 57 = .ok (.iaload, 1) := by decide +kernel
theorem d_M_put_58 : decode b_M_put 58 = .ok (.if_icmp .eq 5, 3) := by decide +kernel
theorem d_M_put_61 : decode b_M_put 61 = .ok (.iconst (-1), 1) := by decide +kernel
theorem d_M_put_62 : decode b_M_put 62 = .ok (.ireturn, 1) := by decide +kernel
theorem d_M_put_63 : decode b_M_put 63 = .ok (.aload_n 0, 1) := by decide +kernel
theorem d_M_put_64 : decode b_M_put 64 = .ok (.iload_n 2, 1) := by decide +kernel
theorem d_M_put_65 : decode b_M_put 65 = .ok (.iload_n 3, 1) := by decide +kernel
theorem d_M_put_66 : decode b_M_put 66 = .ok (.invokevirtual 159, 3) := by decide +kernel
theorem d_M_put_69 : decode b_M_put 69 = .ok (.istore 5, 2) := by decide +kernel
theorem d_M_put_71 : decode b_M_put 71 = .ok (.aload_n 0, 1) := by decide +kernel
theorem d_M_put_72 : decode b_M_put 72 = .ok (.iload_n 2, 1) := by decide +kernel
theorem d_M_put_73 : decode b_M_put 73 = .ok (.iload 5, 2) := by decide +kernel
theorem d_M_put_75 : decode b_M_put 75 = .ok (.iload_n 3, 1) := by decide +kernel
theorem d_M_put_76 : decode b_M_put 76 = .ok (.invokevirtual 162, 3) := by decide +kernel
theorem d_M_put_79 : decode b_M_put 79 = .ok (.ifCond .eq 18, 3) := by decide +kernel
theorem d_M_put_82 : decode b_M_put 82 = .ok (.aload_n 0, 1) := by decide +kernel
theorem d_M_put_83 : decode b_M_put 83 = .ok (.aload_n 0, 1) := by decide +kernel
theorem d_M_put_84 : decode b_M_put 84 = .ok (.getfield 19, 3) := by decide +kernel
theorem d_M_put_87 : decode b_M_put 87 = .ok (.iload_n 2, 1) := by decide +kernel
theorem d_M_put_88 : decode b_M_put 88 = .ok (.iaload, 1) := by decide +kernel
theorem d_M_put_89 : decode b_M_put 89 = .ok (.iload 5, 2) := by decide +kernel
theorem d_M_put_91 : decode b_M_put 91 = .ok (.invokevirtual 152, 3) := by decide +kernel
theorem d_M_put_94 : decode b_M_put 94 = .ok (.goto 5, 3) := by decide +kernel
theorem d_M_put_97 : decode b_M_put 97 = .ok (.iload 5, 2) := by decide +kernel
theorem d_M_put_99 : decode b_M_put 99 = .ok (.istore 6, 2) := by decide +kernel
theorem d_M_put_101 : decode b_M_put 101 = .ok (.aload_n 0, 1) := by decide +kernel
theorem d_M_put_102 : decode b_M_put 102 = .ok (.iload_n 1, 1) := by decide +kernel
theorem d_M_put_103 : decode b_M_put 103 = .ok (.iload_n 2, 1) := by decide +kernel
theorem d_M_put_104 : decode b_M_put 104 = .ok (.iload 5, 2) := by decide +kernel
theorem d_M_put_106 : decode b_M_put 106 = .ok (.iload 6, 2) := by decide +kernel
theorem d_M_put_108 : decode b_M_put 108 = .ok (.iload_n 3, 1) := by decide +kernel
theorem d_M_put_109 : decode b_M_put 109 = .ok (.iload 4, 2) := by decide +kernel
theorem d_M_put_111 : decode b_M_put 111 = .ok (.invokevirtual 166, 3) := by decide +kernel
theorem d_M_put_114 : decode b_M_put 114 = .ok (.ireturn, 1) := by decide +kernel
set_option maxHeartbeats 4000000 in
set_option maxRecDepth 100000 in
theorem p_M_put (l : Launch) (D : va_G) (dT : Nat → ClassId) (H : Heap) (mm : Nat → Nat) (tb : Nat → TR) (tc : Nat) (RV : Nat → Option VT) (hI : mI D dT mm tb tc RV H) (r tree key value : Int32) : Met l y_M_put w_M_put ({ frames := 210, cells := 0, slots := 0, locals := 5400 }) (z_P D dT [.ref (mm 0), .int r, .int tree, .int key, .int value] H) (z_Q (mA mm) (fun v H1 => v = some (.int (kp RV r (o_put tb RV tree key value)).1) ∧ mI D dT mm tb tc (kp RV r (o_put tb RV tree key value)).2 H1)) 0 0 (mA mm) := by
  obtain ⟨wd, lf, rt, ty, F, sz, Wk, wz, dg, dc, sh, hM, hO, hT, hR, hWk⟩ := hI
  have hF := hR.1
  have htc := hO.1
  have htc10 := hO.2.1
  refine Met.ofW (cc := b_M_put) (maxL := 7) (ret := (Option.some .int)) (by decide) rfl ?_
  intro p e s m args below meth c s₁ B hml hv
  obtain ⟨rfl, rfl, hK⟩ := hv
  have hx := B.exec
  have hb := B.bytes
  have hr := B.returns
  have hts := atoms_spec (ws := w_M_put) B.pre
  have ht : ∀ w9 ∈ gt, w9.before [.ref (mm 0), .int r, .int tree, .int key, .int value].toArray s = true := fun w9 h => hts w9 (List.mem_cons_of_mem _ h)
  have hown : s.vm.findClass "ValueTreesModel" = some m.cls := findClass_of_methodNamed B.named
  have hlocks := B.notSynchronized
  have hS : va_S (mA mm) s.heap s.heap [] := va_S.rf
  have hl := lv_entry ([.ref (mm 0), .int r, .int tree, .int key, .int value]) (n := 7) (Nat.le_of_ble_eq_true rfl)
  rw [lg_entry_eq]
  generalize (lg_sl ([.ref (mm 0), .int r, .int tree, .int key, .int value]) ++ List.replicate (7 - (lg_sl ([.ref (mm 0), .int r, .int tree, .int key, .int value])).length) Slot.unset).toArray = ls at hl ⊢
  have hl : lv_has ls 7 [(0, .ref (mm 0)), (1, .int r), (2, .int tree), (3, .int key), (4, .int value)] := hl
  refine lv_iload_n hx hb d_M_put_0 rfl (lv_at hl 1 rfl) ?_
  refine z_callR (va_runS (As := [.int r]) (rest := []) ⟨hx, hb, hml, hown, hts⟩ (c_M_isRegister l D dT _ r) ⟨callB_of 1 hts (gI gd_up gd_c q619) rfl rfl rfl (ht _ q10) (ht _ q617) hd_M_isRegister ⟨Nat.le_of_ble_eq_true rfl, Nat.le_of_ble_eq_true rfl⟩, ht _ q618⟩ (z_preS hK) rfl rfl hl.1 rfl (lv_room (Nat.le_of_ble_eq_true rfl)) d_M_put_1 ⟨Nat.zero_le _, Nat.zero_le _⟩) (fun v2 hv1 => ?_)
  have hv1 : v2 = .int (if inR r then 1 else 0) := hv1
  rcases Classical.em (inR r) with hq3 | hq3
  · rw [if_pos hq3] at hv1
    subst hv1
    refine lv_if_eq (tgt := 16) hx hb d_M_put_4 (by decide) (fun c4 => absurd c4 (by decide)) (fun _ => ?_)
    obtain ⟨j, hj, rfl⟩ := inR_of hq3
    refine lv_aload_n hx hb d_M_put_7 rfl (lv_at hl 0 rfl) ?_
    refine lv_iload_n hx hb d_M_put_8 rfl (lv_at hl 2 rfl) ?_
    refine lv_iload_n hx hb d_M_put_9 rfl (lv_at hl 3 rfl) ?_
    refine z_callR (va_runV (C := "ValueTreesModel") (As := [.int tree, .int key]) (rest := []) ⟨hx, hb, hml, hown, hts⟩ (c_M_areTreeAndKey l D dT _ mm wd lf rt tc ty F sz Wk wz dg dc sh hM tb hO hT RV hR tree key) ⟨callB_of 2 hts (gI gd_up gd_c q723) rfl rfl rfl (ht _ q10) (ht _ q720) hd_M_areTreeAndKey ⟨Nat.le_of_ble_eq_true rfl, Nat.le_of_ble_eq_true rfl⟩, ht _ q722, ht _ qs34⟩ (z_preV hK (va_recv hK.1 hM.1 (ci := 10) (q0 := 0) rfl rfl)) rfl rfl hl.1 rfl (lv_room (Nat.le_of_ble_eq_true rfl)) d_M_put_10 ⟨Nat.zero_le _, Nat.zero_le _⟩) (fun v6 hv5 => ?_)
    have hv5 : v6 = .int (if aTK tb RV tree key = true then 1 else 0) := hv5
    rcases Classical.em (aTK tb RV tree key = true) with hq7 | hq7
    · rw [if_pos hq7] at hv5
      subst hv5
      refine lv_if_ne (tgt := 18) hx hb d_M_put_13 (by decide) (fun _ => ?_) (fun c8 => absurd c8 (by decide))
      have hatk := hq7
      obtain ⟨jt, jk, t, ch, kv, hjt, hjk, rfl, rfl, hVt, hVk, htl, hwd, hch, hkv, ety, etk, esz, esk, hlc, hlk, hfc, hfk⟩ := tk_facts hR hq7
      obtain ⟨hpa, hpb, hpc⟩ := skp_at (kv := kv) hch hfc
      obtain ⟨e1, e2, e3⟩ := hT t htl
      obtain ⟨hL, hlt, hlp⟩ := tl_some hO htl (by omega)
      rw [hL] at e2
      have e2 : lf t = nI (lt_ tb t) := e2
      have r1 := (hO.2.2 t htl).1
      have hpt := (hO.2.2 t htl).2.2.2.2.2.2.2.2.1
      have hwk := wty_skp kv hch
      refine lv_aload_n hx hb d_M_put_18 rfl (lv_at hl 0 rfl) ?_
      refine lv_aload_n hx hb d_M_put_19 rfl (lv_at hl 0 rfl) ?_
      refine va_get (D := D) (ci := 10) (v := .ref (mm 4)) (C := "ValueTreesModel") (T := T_M) (N := 12) hx hb ht in_M hown hK.1 hM.1 0 rfl rfl 4 (by decide) (ht _ q543) (fun _ h9 => h9) rfl d_M_put_20 ?_
      refine lv_iload_n hx hb d_M_put_23 rfl (lv_at hl 2 rfl) ?_
      refine z_iald hx hb hK (hM.1 4 _ rfl) jt rfl (by omega) (by decide) d_M_put_24 ?_
      rw [ety]
      refine z_callR (va_runV (C := "ValueTreesModel") (As := [.int (nI t)]) (rest := []) ⟨hx, hb, hml, hown, hts⟩ (c_M_isKeyed l D dT _ mm wd lf rt tc ty F sz Wk wz dg dc sh hM tb hO hT t (by omega)) ⟨callB_of 1 hts (gI gd_up gd_c q727) rfl rfl rfl (ht _ q10) (ht _ q724) hd_M_isKeyed ⟨Nat.le_of_ble_eq_true rfl, Nat.le_of_ble_eq_true rfl⟩, ht _ q726, ht _ qs35⟩ (z_preV hK (va_recv hK.1 hM.1 (ci := 10) (q0 := 0) rfl rfl)) rfl rfl hl.1 rfl (lv_room (Nat.le_of_ble_eq_true rfl)) d_M_put_25 ⟨Nat.zero_le _, Nat.zero_le _⟩) (fun v10 hv9 => ?_)
      have hv9 : v10 = .int (if ¬ tW (tb t) = 12 then 1 else 0) := hv9
      rcases Classical.em (¬ tW (tb t) = 12) with hq11 | hq11
      · rw [if_pos hq11] at hv9
        subst hv9
        refine lv_if_eq (tgt := 63) hx hb d_M_put_28 (by decide) (fun c12 => absurd c12 (by decide)) (fun _ => ?_)
        have hw12 := hq11
        obtain ⟨hRr, hrt, hrp⟩ := tr_some hO htl (by omega)
        rw [hRr] at e3
        have e3 : rt t = nI (rt_ tb t) := e3
        refine lv_aload_n hx hb d_M_put_31 rfl (lv_at hl 0 rfl) ?_
        refine lv_iload hx hb d_M_put_32 (lv_at hl 4 rfl) ?_
        refine z_callR (va_runV (C := "ValueTreesModel") (As := [.int value]) (rest := []) ⟨hx, hb, hml, hown, hts⟩ (c_M_hasValue l D dT _ mm wd lf rt tc ty F sz Wk wz dg dc sh hM tb hO hT RV hR value) ⟨callB_of 1 hts (gI gd_up gd_c q662) rfl rfl rfl (ht _ q10) (ht _ q659) hd_M_hasValue ⟨Nat.le_of_ble_eq_true rfl, Nat.le_of_ble_eq_true rfl⟩, ht _ q661, ht _ qs27⟩ (z_preV hK (va_recv hK.1 hM.1 (ci := 10) (q0 := 0) rfl rfl)) rfl rfl hl.1 rfl (lv_room (Nat.le_of_ble_eq_true rfl)) d_M_put_34 ⟨Nat.zero_le _, Nat.zero_le _⟩) (fun v14 hv13 => ?_)
        have hv13 : v14 = .int (if (rgs RV value).isSome = true then 1 else 0) := hv13
        cases hr15 : rgs RV value with
        | none =>
          rw [hr15] at hv13
          subst hv13
          try dsimp only
          refine W.eq (g2 := F0 m 37 ls [.int 0]) rfl ?_
          refine lv_if_eq (tgt := 61) hx hb d_M_put_37 (by decide) (fun _ => ?_) (fun c18 => absurd c18 (by decide))
          refine lv_iconst (v := (-1)) hx hb d_M_put_61 (by decide) ?_
          refine z_iretQ hx hb hr hlocks d_M_put_62 hS (Nat.le_refl _) (Nat.le_refl _) ?_
          have eo : o_put tb RV (nI jt) (nI jk) value = none := by unfold o_put; rw [if_pos hatk, rgs_nI hjt, rgs_nI hjk, hVt, hVk]; show (if tW (tb t) = 12 then _ else _) = _; rw [if_neg hw12, hr15]
          rw [eo]
          exact ⟨rfl, _, _, _, _, _, _, _, _, _, _, _, hM, hO, hT, hR, hWk⟩
        | some v16 =>
          rw [hr15] at hv13
          subst hv13
          refine W.eq (g2 := F0 m 37 ls [.int 1]) rfl ?_
          obtain ⟨j17, hj17, rfl, hV16⟩ := rgs_some hr15
          obtain ⟨ht16, et16, hw16, es16, hn16, hf16⟩ := mR_some hR hj17 hV16
          refine lv_if_eq (tgt := 61) hx hb d_M_put_37 (by decide) (fun c19 => absurd c19 (by decide)) (fun _ => ?_)
          refine lv_aload_n hx hb d_M_put_40 rfl (lv_at hl 0 rfl) ?_
          refine va_get (D := D) (ci := 10) (v := .ref (mm 4)) (C := "ValueTreesModel") (T := T_M) (N := 12) hx hb ht in_M hown hK.1 hM.1 0 rfl rfl 4 (by decide) (ht _ q543) (fun _ h9 => h9) rfl d_M_put_41 ?_
          refine lv_iload hx hb d_M_put_44 (lv_at hl 4 rfl) ?_
          refine z_iald hx hb hK (hM.1 4 _ rfl) j17 rfl (by omega) (by decide) d_M_put_46 ?_
          rw [et16]
          refine lv_aload_n hx hb d_M_put_47 rfl (lv_at hl 0 rfl) ?_
          refine va_get (D := D) (ci := 10) (v := .ref (mm 3)) (C := "ValueTreesModel") (T := T_M) (N := 12) hx hb ht in_M hown hK.1 hM.1 0 rfl rfl 2 (by decide) (ht _ q541) (fun _ h9 => h9) rfl d_M_put_48 ?_
          refine lv_aload_n hx hb d_M_put_51 rfl (lv_at hl 0 rfl) ?_
          refine va_get (D := D) (ci := 10) (v := .ref (mm 4)) (C := "ValueTreesModel") (T := T_M) (N := 12) hx hb ht in_M hown hK.1 hM.1 0 rfl rfl 4 (by decide) (ht _ q543) (fun _ h9 => h9) rfl d_M_put_52 ?_
          refine lv_iload_n hx hb d_M_put_55 rfl (lv_at hl 2 rfl) ?_
          refine z_iald hx hb hK (hM.1 4 _ rfl) jt rfl (by omega) (by decide) d_M_put_56 ?_
          rw [ety]
          refine z_iald hx hb hK (hM.1 3 _ rfl) t rfl (by omega) (by decide) d_M_put_57 ?_
          rw [e3]
          refine lv_icmp_eq (tgt := 63) hx hb d_M_put_58 (by decide) (fun c20 => ?_) (fun c20 => ?_)
          · have nc20 : (vty v16) = (rt_ tb t) := (nI_eq (a := (vty v16)) (b := (rt_ tb t)) (by omega) (by omega)).mp c20
            refine lv_aload_n hx hb d_M_put_63 rfl (lv_at hl 0 rfl) ?_
            refine lv_iload_n hx hb d_M_put_64 rfl (lv_at hl 2 rfl) ?_
            refine lv_iload_n hx hb d_M_put_65 rfl (lv_at hl 3 rfl) ?_
            refine z_callQ (va_runV (C := "ValueTreesModel") (As := [.int (nI jt), .int (nI jk)]) (rest := []) ⟨hx, hb, hml, hown, hts⟩ (c_M_entryFor l D dT _ mm wd lf rt tc ty F sz Wk wz dg dc sh hM hF tb hO hT jt jk t ch kv hjt hjk htl hwd hch hkv ety esz hlc hlk hfc hfk) ⟨callB_of 2 hts (gI gd_up gd_c q731) rfl rfl rfl (ht _ q10) (ht _ q728) hd_M_entryFor ⟨Nat.le_of_ble_eq_true rfl, Nat.le_of_ble_eq_true rfl⟩, ht _ q730, ht _ qs36⟩ (z_preV hK (va_recv hK.1 hM.1 (ci := 10) (q0 := 0) rfl rfl)) rfl rfl hl.1 rfl (lv_room (Nat.le_of_ble_eq_true rfl)) d_M_put_66 ⟨Nat.le_refl _, Nat.le_refl _⟩) hS (fun _ h9 => h9) (fun v22 H locs hv21 hz23 hf24 hS => ?_)
            obtain ⟨rfl, dg, dc, sh, hM⟩ := hv21
            refine W.eq (g2 := F0 m 69 ls [.int (nI (160 * jt + 5 + (cs (prc ch kv)).length))]) rfl ?_
            refine lv_istore (lv' := [(5, .int (nI (160 * jt + 5 + (cs (prc ch kv)).length))), (0, .ref (mm 0)), (1, .int (nI j)), (2, .int (nI jt)), (3, .int (nI jk)), (4, .int (nI j17))]) hx hb d_M_put_69 hl (by decide) rfl (fun ls hl => ?_)
            refine lv_aload_n hx hb d_M_put_71 rfl (lv_at hl 1 rfl) ?_
            refine lv_iload_n hx hb d_M_put_72 rfl (lv_at hl 3 rfl) ?_
            refine lv_iload hx hb d_M_put_73 (lv_at hl 0 rfl) ?_
            refine lv_iload_n hx hb d_M_put_75 rfl (lv_at hl 4 rfl) ?_
            refine z_callQ (va_runV (C := "ValueTreesModel") (As := [.int (nI jt), .int (nI (160 * jt + 5 + (cs (prc ch kv)).length)), .int (nI jk)]) (rest := []) ⟨hx, hb, hml, hown, hts⟩ (c_M_isThere l D dT _ mm wd lf rt tc ty F sz Wk wz dg dc sh hM hF tb hO hT jt jk t ch kv hjt hjk htl hwd hch hkv ety esz hlc hlk hfc hfk (skp ch kv) (cs (prc ch kv)).length (wty_skp kv hch) hpc hpb) ⟨callB_of 3 hts (gI gd_up gd_c q774) rfl rfl rfl (ht _ q10) (ht _ q771) hd_M_isThere ⟨Nat.le_of_ble_eq_true rfl, Nat.le_of_ble_eq_true rfl⟩, ht _ q773, ht _ qs46⟩ (z_preV hK (va_recv hK.1 hM.1 (ci := 10) (q0 := 0) rfl rfl)) rfl rfl hl.1 rfl (lv_room (Nat.le_of_ble_eq_true rfl)) d_M_put_76 ⟨Nat.le_refl _, Nat.le_refl _⟩) hS (fun _ h9 => h9) (fun v26 H locs hv25 hz27 hf28 hS => ?_)
            obtain ⟨rfl, dg, dc, sh, hM⟩ := hv25
            refine W.eq (g2 := F0 m 79 ls [.int (if thr (skp ch kv) kv = true then 1 else 0)]) rfl ?_
            rcases Classical.em (thr (skp ch kv) kv = true) with hthr | hthr
            · rw [if_pos hthr]
              refine lv_if_eq (tgt := 97) hx hb d_M_put_79 (by decide) (fun c29 => absurd c29 (by decide)) (fun _ => ?_)
              obtain ⟨e9, r9, hsk, hwe, hr9, hvo9⟩ := skp_thr hch hthr
              have hlm : (cs (skp ch kv)).length = (eb e9).length + (cs r9).length := by rw [hsk, cs_mul, List.length_append]
              have hfe9 : fAt F (160 * jt + 5 + (cs (prc ch kv)).length) (eb e9) ∧ fAt F (160 * jt + 5 + (cs (prc ch kv)).length + (eb e9).length) (cs r9) := by have h8 := hpb; rw [hsk, cs_mul, fAt_app] at h8; exact h8
              have hfe := hfe9.1
              refine lv_aload_n hx hb d_M_put_82 rfl (lv_at hl 1 rfl) ?_
              refine lv_aload_n hx hb d_M_put_83 rfl (lv_at hl 1 rfl) ?_
              refine va_get (D := D) (ci := 10) (v := .ref (mm 4)) (C := "ValueTreesModel") (T := T_M) (N := 12) hx hb ht in_M hown hK.1 hM.1 0 rfl rfl 4 (by decide) (ht _ q543) (fun _ h9 => h9) rfl d_M_put_84 ?_
              refine lv_iload_n hx hb d_M_put_87 rfl (lv_at hl 3 rfl) ?_
              refine z_iald hx hb hK (hM.1 4 _ rfl) jt rfl (by omega) (by decide) d_M_put_88 ?_
              rw [ety]
              refine lv_iload hx hb d_M_put_89 (lv_at hl 0 rfl) ?_
              refine z_callR (va_runV (C := "ValueTreesModel") (As := [.int (nI t), .int (nI (160 * jt + 5 + (cs (prc ch kv)).length))]) (rest := []) ⟨hx, hb, hml, hown, hts⟩ (c_M_entryEnd l D dT _ mm wd lf rt tc ty F sz Wk wz dg dc sh hM hF tb hO hT t (160 * jt + 5 + (cs (prc ch kv)).length) e9 (by omega) hwd hwe hfe (by omega)) ⟨callB_of 2 hts (gI gd_up gd_c q770) rfl rfl rfl (ht _ q10) (ht _ q767) hd_M_entryEnd ⟨Nat.le_of_ble_eq_true rfl, Nat.le_of_ble_eq_true rfl⟩, ht _ q769, ht _ qs45⟩ (z_preV hK (va_recv hK.1 hM.1 (ci := 10) (q0 := 0) rfl rfl)) rfl rfl hl.1 rfl (lv_room (Nat.le_of_ble_eq_true rfl)) d_M_put_91 ⟨Nat.zero_le _, Nat.zero_le _⟩) (fun v31 hv30 => ?_)
              subst hv30
              refine lv_goto (tgt := 99) hx hb d_M_put_94 (by decide) ?_
              refine lv_istore (lv' := [(6, .int (nI (160 * jt + 5 + (cs (prc ch kv)).length + (eb e9).length))), (5, .int (nI (160 * jt + 5 + (cs (prc ch kv)).length))), (0, .ref (mm 0)), (1, .int (nI j)), (2, .int (nI jt)), (3, .int (nI jk)), (4, .int (nI j17))]) hx hb d_M_put_99 hl (by decide) rfl (fun ls hl => ?_)
              refine lv_aload_n hx hb d_M_put_101 rfl (lv_at hl 2 rfl) ?_
              refine lv_iload_n hx hb d_M_put_102 rfl (lv_at hl 3 rfl) ?_
              refine lv_iload_n hx hb d_M_put_103 rfl (lv_at hl 4 rfl) ?_
              refine lv_iload hx hb d_M_put_104 (lv_at hl 1 rfl) ?_
              refine lv_iload hx hb d_M_put_106 (lv_at hl 0 rfl) ?_
              refine lv_iload_n hx hb d_M_put_108 rfl (lv_at hl 5 rfl) ?_
              refine lv_iload hx hb d_M_put_109 (lv_at hl 6 rfl) ?_
              have hrs : rst ch kv = r9 := by rw [rst_t hthr, hsk]; rfl
              have hrl : (cs (rst ch kv)).length ≤ (cs (skp ch kv)).length := by rw [hrs]; first | omega | exact Nat.le_refl _
              refine z_callQ (va_runV (C := "ValueTreesModel") (As := [.int (nI j), .int (nI jt), .int (nI (160 * jt + 5 + (cs (prc ch kv)).length)), .int (nI (160 * jt + 5 + (cs (prc ch kv)).length + (eb e9).length)), .int (nI jk), .int (nI j17)]) (rest := []) ⟨hx, hb, hml, hown, hts⟩ (c_M_rewrite_map l D dT _ mm wd lf rt tc ty F sz Wk wz dg dc sh hM hF tb hO hT hWk j jt t ((160 * jt + 5 + (cs (prc ch kv)).length) + (eb e9).length) (5 + (cs ch).length) (cs (prc ch kv)) (cs (rst ch kv)) hj hjt htl hwd ety esz hlc hpa (by omega) (by rw [hrs]; exact hfe9.2) (by omega) (by rw [hrs]; omega) jk j17 (cs kv) (cs v16) hjk hj17 hw12 hfk hf16 esk es16 hlk hn16) ⟨callB_of 6 hts (gI gd_up gd_c q778) rfl rfl rfl (ht _ q10) (ht _ q775) hd_M_rewrite ⟨Nat.le_of_ble_eq_true rfl, Nat.le_of_ble_eq_true rfl⟩, ht _ q777, ht _ qs47⟩ (z_preV hK (va_recv hK.1 hM.1 (ci := 10) (q0 := 0) rfl rfl)) rfl rfl hl.1 rfl (lv_room (Nat.le_of_ble_eq_true rfl)) d_M_put_111 ⟨Nat.le_refl _, Nat.le_refl _⟩) hS (fun _ h9 => h9) (fun v33 H locs hv32 hz34 hf35 hS => ?_)
              obtain ⟨r9v, er9⟩ : ∃ r9 : Int32, v33 = some (.int r9) := by obtain ⟨_, _, _, _, _, -, ⟨-, e8, -⟩ | ⟨-, e8, -⟩⟩ := hv32 <;> exact ⟨_, e8⟩
              subst er9
              refine W.eq (g2 := F0 m 114 ls [.int r9v]) rfl ?_
              refine z_iretQ hx hb hr hlocks d_M_put_114 hS (Nat.le_refl _) (Nat.le_refl _) ?_
              have eo : o_put tb RV (nI jt) (nI jk) (nI j17) = some (insE (.pow (.neg ch) t) kv (.add kv v16)) := by unfold o_put; rw [if_pos hatk, rgs_nI hjt, rgs_nI hjk, hVt, hVk]; show (if tW (tb t) = 12 then _ else _) = _; rw [if_neg hw12, rgs_nI hj17, hV16]; exact if_pos nc20
              rw [eo]
              obtain ⟨d1, d2⟩ := ins_done (k := kv) (e := .add kv v16) hwd hch (Or.inr ⟨hw12, kv, v16, rfl, hkv, by rw [← nc20]; exact hw16⟩)
              exact kO_done (x := insE (.pow (.neg ch) t) kv (.add kv v16)) (by rw [d2]; exact hv32) hO hT hR hj htl d1
            · rw [if_neg hthr]
              refine lv_if_eq (tgt := 97) hx hb d_M_put_79 (by decide) (fun _ => ?_) (fun c36 => absurd c36 (by decide))
              refine lv_iload hx hb d_M_put_97 (lv_at hl 0 rfl) ?_
              refine lv_istore (lv' := [(6, .int (nI (160 * jt + 5 + (cs (prc ch kv)).length))), (5, .int (nI (160 * jt + 5 + (cs (prc ch kv)).length))), (0, .ref (mm 0)), (1, .int (nI j)), (2, .int (nI jt)), (3, .int (nI jk)), (4, .int (nI j17))]) hx hb d_M_put_99 hl (by decide) rfl (fun ls hl => ?_)
              refine lv_aload_n hx hb d_M_put_101 rfl (lv_at hl 2 rfl) ?_
              refine lv_iload_n hx hb d_M_put_102 rfl (lv_at hl 3 rfl) ?_
              refine lv_iload_n hx hb d_M_put_103 rfl (lv_at hl 4 rfl) ?_
              refine lv_iload hx hb d_M_put_104 (lv_at hl 1 rfl) ?_
              refine lv_iload hx hb d_M_put_106 (lv_at hl 0 rfl) ?_
              refine lv_iload_n hx hb d_M_put_108 rfl (lv_at hl 5 rfl) ?_
              refine lv_iload hx hb d_M_put_109 (lv_at hl 6 rfl) ?_
              have hrs : rst ch kv = skp ch kv := rst_f hthr
              have hrl : (cs (rst ch kv)).length ≤ (cs (skp ch kv)).length := by rw [hrs]; first | omega | exact Nat.le_refl _
              refine z_callQ (va_runV (C := "ValueTreesModel") (As := [.int (nI j), .int (nI jt), .int (nI (160 * jt + 5 + (cs (prc ch kv)).length)), .int (nI (160 * jt + 5 + (cs (prc ch kv)).length)), .int (nI jk), .int (nI j17)]) (rest := []) ⟨hx, hb, hml, hown, hts⟩ (c_M_rewrite_map l D dT _ mm wd lf rt tc ty F sz Wk wz dg dc sh hM hF tb hO hT hWk j jt t (160 * jt + 5 + (cs (prc ch kv)).length) (5 + (cs ch).length) (cs (prc ch kv)) (cs (rst ch kv)) hj hjt htl hwd ety esz hlc hpa (by omega) (by rw [hrs]; exact hpb) (by omega) (by rw [hrs]; omega) jk j17 (cs kv) (cs v16) hjk hj17 hw12 hfk hf16 esk es16 hlk hn16) ⟨callB_of 6 hts (gI gd_up gd_c q778) rfl rfl rfl (ht _ q10) (ht _ q775) hd_M_rewrite ⟨Nat.le_of_ble_eq_true rfl, Nat.le_of_ble_eq_true rfl⟩, ht _ q777, ht _ qs47⟩ (z_preV hK (va_recv hK.1 hM.1 (ci := 10) (q0 := 0) rfl rfl)) rfl rfl hl.1 rfl (lv_room (Nat.le_of_ble_eq_true rfl)) d_M_put_111 ⟨Nat.le_refl _, Nat.le_refl _⟩) hS (fun _ h9 => h9) (fun v38 H locs hv37 hz39 hf40 hS => ?_)
              obtain ⟨r9v, er9⟩ : ∃ r9 : Int32, v38 = some (.int r9) := by obtain ⟨_, _, _, _, _, -, ⟨-, e8, -⟩ | ⟨-, e8, -⟩⟩ := hv37 <;> exact ⟨_, e8⟩
              subst er9
              refine W.eq (g2 := F0 m 114 ls [.int r9v]) rfl ?_
              refine z_iretQ hx hb hr hlocks d_M_put_114 hS (Nat.le_refl _) (Nat.le_refl _) ?_
              have eo : o_put tb RV (nI jt) (nI jk) (nI j17) = some (insE (.pow (.neg ch) t) kv (.add kv v16)) := by unfold o_put; rw [if_pos hatk, rgs_nI hjt, rgs_nI hjk, hVt, hVk]; show (if tW (tb t) = 12 then _ else _) = _; rw [if_neg hw12, rgs_nI hj17, hV16]; exact if_pos nc20
              rw [eo]
              obtain ⟨d1, d2⟩ := ins_done (k := kv) (e := .add kv v16) hwd hch (Or.inr ⟨hw12, kv, v16, rfl, hkv, by rw [← nc20]; exact hw16⟩)
              exact kO_done (x := insE (.pow (.neg ch) t) kv (.add kv v16)) (by rw [d2]; exact hv37) hO hT hR hj htl d1
          · have nc20 : ¬ (vty v16) = (rt_ tb t) := fun h9 => c20 ((nI_eq (a := (vty v16)) (b := (rt_ tb t)) (by omega) (by omega)).mpr h9)
            refine lv_iconst (v := (-1)) hx hb d_M_put_61 (by decide) ?_
            refine z_iretQ hx hb hr hlocks d_M_put_62 hS (Nat.le_refl _) (Nat.le_refl _) ?_
            have eo : o_put tb RV (nI jt) (nI jk) (nI j17) = none := by unfold o_put; rw [if_pos hatk, rgs_nI hjt, rgs_nI hjk, hVt, hVk]; show (if tW (tb t) = 12 then _ else _) = _; rw [if_neg hw12, rgs_nI hj17, hV16]; exact if_neg nc20
            rw [eo]
            exact ⟨rfl, _, _, _, _, _, _, _, _, _, _, _, hM, hO, hT, hR, hWk⟩
      · rw [if_neg hq11] at hv9
        subst hv9
        refine lv_if_eq (tgt := 63) hx hb d_M_put_28 (by decide) (fun _ => ?_) (fun c41 => absurd c41 (by decide))
        have hw12 : tW (tb t) = 12 := Classical.not_not.mp hq11
        refine lv_aload_n hx hb d_M_put_63 rfl (lv_at hl 0 rfl) ?_
        refine lv_iload_n hx hb d_M_put_64 rfl (lv_at hl 2 rfl) ?_
        refine lv_iload_n hx hb d_M_put_65 rfl (lv_at hl 3 rfl) ?_
        refine z_callQ (va_runV (C := "ValueTreesModel") (As := [.int (nI jt), .int (nI jk)]) (rest := []) ⟨hx, hb, hml, hown, hts⟩ (c_M_entryFor l D dT _ mm wd lf rt tc ty F sz Wk wz dg dc sh hM hF tb hO hT jt jk t ch kv hjt hjk htl hwd hch hkv ety esz hlc hlk hfc hfk) ⟨callB_of 2 hts (gI gd_up gd_c q731) rfl rfl rfl (ht _ q10) (ht _ q728) hd_M_entryFor ⟨Nat.le_of_ble_eq_true rfl, Nat.le_of_ble_eq_true rfl⟩, ht _ q730, ht _ qs36⟩ (z_preV hK (va_recv hK.1 hM.1 (ci := 10) (q0 := 0) rfl rfl)) rfl rfl hl.1 rfl (lv_room (Nat.le_of_ble_eq_true rfl)) d_M_put_66 ⟨Nat.le_refl _, Nat.le_refl _⟩) hS (fun _ h9 => h9) (fun v43 H locs hv42 hz44 hf45 hS => ?_)
        obtain ⟨rfl, dg, dc, sh, hM⟩ := hv42
        refine W.eq (g2 := F0 m 69 ls [.int (nI (160 * jt + 5 + (cs (prc ch kv)).length))]) rfl ?_
        refine lv_istore (lv' := [(5, .int (nI (160 * jt + 5 + (cs (prc ch kv)).length))), (0, .ref (mm 0)), (1, .int (nI j)), (2, .int (nI jt)), (3, .int (nI jk)), (4, .int value)]) hx hb d_M_put_69 hl (by decide) rfl (fun ls hl => ?_)
        refine lv_aload_n hx hb d_M_put_71 rfl (lv_at hl 1 rfl) ?_
        refine lv_iload_n hx hb d_M_put_72 rfl (lv_at hl 3 rfl) ?_
        refine lv_iload hx hb d_M_put_73 (lv_at hl 0 rfl) ?_
        refine lv_iload_n hx hb d_M_put_75 rfl (lv_at hl 4 rfl) ?_
        refine z_callQ (va_runV (C := "ValueTreesModel") (As := [.int (nI jt), .int (nI (160 * jt + 5 + (cs (prc ch kv)).length)), .int (nI jk)]) (rest := []) ⟨hx, hb, hml, hown, hts⟩ (c_M_isThere l D dT _ mm wd lf rt tc ty F sz Wk wz dg dc sh hM hF tb hO hT jt jk t ch kv hjt hjk htl hwd hch hkv ety esz hlc hlk hfc hfk (skp ch kv) (cs (prc ch kv)).length (wty_skp kv hch) hpc hpb) ⟨callB_of 3 hts (gI gd_up gd_c q774) rfl rfl rfl (ht _ q10) (ht _ q771) hd_M_isThere ⟨Nat.le_of_ble_eq_true rfl, Nat.le_of_ble_eq_true rfl⟩, ht _ q773, ht _ qs46⟩ (z_preV hK (va_recv hK.1 hM.1 (ci := 10) (q0 := 0) rfl rfl)) rfl rfl hl.1 rfl (lv_room (Nat.le_of_ble_eq_true rfl)) d_M_put_76 ⟨Nat.le_refl _, Nat.le_refl _⟩) hS (fun _ h9 => h9) (fun v47 H locs hv46 hz48 hf49 hS => ?_)
        obtain ⟨rfl, dg, dc, sh, hM⟩ := hv46
        refine W.eq (g2 := F0 m 79 ls [.int (if thr (skp ch kv) kv = true then 1 else 0)]) rfl ?_
        rcases Classical.em (thr (skp ch kv) kv = true) with hthr | hthr
        · rw [if_pos hthr]
          refine lv_if_eq (tgt := 97) hx hb d_M_put_79 (by decide) (fun c50 => absurd c50 (by decide)) (fun _ => ?_)
          obtain ⟨e9, r9, hsk, hwe, hr9, hvo9⟩ := skp_thr hch hthr
          have hlm : (cs (skp ch kv)).length = (eb e9).length + (cs r9).length := by rw [hsk, cs_mul, List.length_append]
          have hfe9 : fAt F (160 * jt + 5 + (cs (prc ch kv)).length) (eb e9) ∧ fAt F (160 * jt + 5 + (cs (prc ch kv)).length + (eb e9).length) (cs r9) := by have h8 := hpb; rw [hsk, cs_mul, fAt_app] at h8; exact h8
          have hfe := hfe9.1
          refine lv_aload_n hx hb d_M_put_82 rfl (lv_at hl 1 rfl) ?_
          refine lv_aload_n hx hb d_M_put_83 rfl (lv_at hl 1 rfl) ?_
          refine va_get (D := D) (ci := 10) (v := .ref (mm 4)) (C := "ValueTreesModel") (T := T_M) (N := 12) hx hb ht in_M hown hK.1 hM.1 0 rfl rfl 4 (by decide) (ht _ q543) (fun _ h9 => h9) rfl d_M_put_84 ?_
          refine lv_iload_n hx hb d_M_put_87 rfl (lv_at hl 3 rfl) ?_
          refine z_iald hx hb hK (hM.1 4 _ rfl) jt rfl (by omega) (by decide) d_M_put_88 ?_
          rw [ety]
          refine lv_iload hx hb d_M_put_89 (lv_at hl 0 rfl) ?_
          refine z_callR (va_runV (C := "ValueTreesModel") (As := [.int (nI t), .int (nI (160 * jt + 5 + (cs (prc ch kv)).length))]) (rest := []) ⟨hx, hb, hml, hown, hts⟩ (c_M_entryEnd l D dT _ mm wd lf rt tc ty F sz Wk wz dg dc sh hM hF tb hO hT t (160 * jt + 5 + (cs (prc ch kv)).length) e9 (by omega) hwd hwe hfe (by omega)) ⟨callB_of 2 hts (gI gd_up gd_c q770) rfl rfl rfl (ht _ q10) (ht _ q767) hd_M_entryEnd ⟨Nat.le_of_ble_eq_true rfl, Nat.le_of_ble_eq_true rfl⟩, ht _ q769, ht _ qs45⟩ (z_preV hK (va_recv hK.1 hM.1 (ci := 10) (q0 := 0) rfl rfl)) rfl rfl hl.1 rfl (lv_room (Nat.le_of_ble_eq_true rfl)) d_M_put_91 ⟨Nat.zero_le _, Nat.zero_le _⟩) (fun v52 hv51 => ?_)
          subst hv51
          refine lv_goto (tgt := 99) hx hb d_M_put_94 (by decide) ?_
          refine lv_istore (lv' := [(6, .int (nI (160 * jt + 5 + (cs (prc ch kv)).length + (eb e9).length))), (5, .int (nI (160 * jt + 5 + (cs (prc ch kv)).length))), (0, .ref (mm 0)), (1, .int (nI j)), (2, .int (nI jt)), (3, .int (nI jk)), (4, .int value)]) hx hb d_M_put_99 hl (by decide) rfl (fun ls hl => ?_)
          refine lv_aload_n hx hb d_M_put_101 rfl (lv_at hl 2 rfl) ?_
          refine lv_iload_n hx hb d_M_put_102 rfl (lv_at hl 3 rfl) ?_
          refine lv_iload_n hx hb d_M_put_103 rfl (lv_at hl 4 rfl) ?_
          refine lv_iload hx hb d_M_put_104 (lv_at hl 1 rfl) ?_
          refine lv_iload hx hb d_M_put_106 (lv_at hl 0 rfl) ?_
          refine lv_iload_n hx hb d_M_put_108 rfl (lv_at hl 5 rfl) ?_
          refine lv_iload hx hb d_M_put_109 (lv_at hl 6 rfl) ?_
          have hrs : rst ch kv = r9 := by rw [rst_t hthr, hsk]; rfl
          have hrl : (cs (rst ch kv)).length ≤ (cs (skp ch kv)).length := by rw [hrs]; first | omega | exact Nat.le_refl _
          refine z_callQ (va_runV (C := "ValueTreesModel") (As := [.int (nI j), .int (nI jt), .int (nI (160 * jt + 5 + (cs (prc ch kv)).length)), .int (nI (160 * jt + 5 + (cs (prc ch kv)).length + (eb e9).length)), .int (nI jk), .int value]) (rest := []) ⟨hx, hb, hml, hown, hts⟩ (c_M_rewrite_set l D dT _ mm wd lf rt tc ty F sz Wk wz dg dc sh hM hF tb hO hT hWk j jt t ((160 * jt + 5 + (cs (prc ch kv)).length) + (eb e9).length) (5 + (cs ch).length) (cs (prc ch kv)) (cs (rst ch kv)) hj hjt htl hwd ety esz hlc hpa (by omega) (by rw [hrs]; exact hfe9.2) (by omega) (by rw [hrs]; omega) jk (cs kv) value hjk hw12 hfk esk hlk) ⟨callB_of 6 hts (gI gd_up gd_c q778) rfl rfl rfl (ht _ q10) (ht _ q775) hd_M_rewrite ⟨Nat.le_of_ble_eq_true rfl, Nat.le_of_ble_eq_true rfl⟩, ht _ q777, ht _ qs47⟩ (z_preV hK (va_recv hK.1 hM.1 (ci := 10) (q0 := 0) rfl rfl)) rfl rfl hl.1 rfl (lv_room (Nat.le_of_ble_eq_true rfl)) d_M_put_111 ⟨Nat.le_refl _, Nat.le_refl _⟩) hS (fun _ h9 => h9) (fun v54 H locs hv53 hz55 hf56 hS => ?_)
          obtain ⟨r9v, er9⟩ : ∃ r9 : Int32, v54 = some (.int r9) := by obtain ⟨_, _, _, _, _, -, ⟨-, e8, -⟩ | ⟨-, e8, -⟩⟩ := hv53 <;> exact ⟨_, e8⟩
          subst er9
          refine W.eq (g2 := F0 m 114 ls [.int r9v]) rfl ?_
          refine z_iretQ hx hb hr hlocks d_M_put_114 hS (Nat.le_refl _) (Nat.le_refl _) ?_
          have eo : o_put tb RV (nI jt) (nI jk) value = some (insE (.pow (.neg ch) t) kv kv) := by unfold o_put; rw [if_pos hatk, rgs_nI hjt, rgs_nI hjk, hVt, hVk]; show (if tW (tb t) = 12 then _ else _) = _; rw [if_pos hw12]
          rw [eo]
          obtain ⟨d1, d2⟩ := ins_done (k := kv) (e := kv) hwd hch (Or.inl ⟨hw12, hkv⟩)
          rw [eb_pow hkv] at d2
          exact kO_done (x := insE (.pow (.neg ch) t) kv kv) (by rw [d2]; exact hv53) hO hT hR hj htl d1
        · rw [if_neg hthr]
          refine lv_if_eq (tgt := 97) hx hb d_M_put_79 (by decide) (fun _ => ?_) (fun c57 => absurd c57 (by decide))
          refine lv_iload hx hb d_M_put_97 (lv_at hl 0 rfl) ?_
          refine lv_istore (lv' := [(6, .int (nI (160 * jt + 5 + (cs (prc ch kv)).length))), (5, .int (nI (160 * jt + 5 + (cs (prc ch kv)).length))), (0, .ref (mm 0)), (1, .int (nI j)), (2, .int (nI jt)), (3, .int (nI jk)), (4, .int value)]) hx hb d_M_put_99 hl (by decide) rfl (fun ls hl => ?_)
          refine lv_aload_n hx hb d_M_put_101 rfl (lv_at hl 2 rfl) ?_
          refine lv_iload_n hx hb d_M_put_102 rfl (lv_at hl 3 rfl) ?_
          refine lv_iload_n hx hb d_M_put_103 rfl (lv_at hl 4 rfl) ?_
          refine lv_iload hx hb d_M_put_104 (lv_at hl 1 rfl) ?_
          refine lv_iload hx hb d_M_put_106 (lv_at hl 0 rfl) ?_
          refine lv_iload_n hx hb d_M_put_108 rfl (lv_at hl 5 rfl) ?_
          refine lv_iload hx hb d_M_put_109 (lv_at hl 6 rfl) ?_
          have hrs : rst ch kv = skp ch kv := rst_f hthr
          have hrl : (cs (rst ch kv)).length ≤ (cs (skp ch kv)).length := by rw [hrs]; first | omega | exact Nat.le_refl _
          refine z_callQ (va_runV (C := "ValueTreesModel") (As := [.int (nI j), .int (nI jt), .int (nI (160 * jt + 5 + (cs (prc ch kv)).length)), .int (nI (160 * jt + 5 + (cs (prc ch kv)).length)), .int (nI jk), .int value]) (rest := []) ⟨hx, hb, hml, hown, hts⟩ (c_M_rewrite_set l D dT _ mm wd lf rt tc ty F sz Wk wz dg dc sh hM hF tb hO hT hWk j jt t (160 * jt + 5 + (cs (prc ch kv)).length) (5 + (cs ch).length) (cs (prc ch kv)) (cs (rst ch kv)) hj hjt htl hwd ety esz hlc hpa (by omega) (by rw [hrs]; exact hpb) (by omega) (by rw [hrs]; omega) jk (cs kv) value hjk hw12 hfk esk hlk) ⟨callB_of 6 hts (gI gd_up gd_c q778) rfl rfl rfl (ht _ q10) (ht _ q775) hd_M_rewrite ⟨Nat.le_of_ble_eq_true rfl, Nat.le_of_ble_eq_true rfl⟩, ht _ q777, ht _ qs47⟩ (z_preV hK (va_recv hK.1 hM.1 (ci := 10) (q0 := 0) rfl rfl)) rfl rfl hl.1 rfl (lv_room (Nat.le_of_ble_eq_true rfl)) d_M_put_111 ⟨Nat.le_refl _, Nat.le_refl _⟩) hS (fun _ h9 => h9) (fun v59 H locs hv58 hz60 hf61 hS => ?_)
          obtain ⟨r9v, er9⟩ : ∃ r9 : Int32, v59 = some (.int r9) := by obtain ⟨_, _, _, _, _, -, ⟨-, e8, -⟩ | ⟨-, e8, -⟩⟩ := hv58 <;> exact ⟨_, e8⟩
          subst er9
          refine W.eq (g2 := F0 m 114 ls [.int r9v]) rfl ?_
          refine z_iretQ hx hb hr hlocks d_M_put_114 hS (Nat.le_refl _) (Nat.le_refl _) ?_
          have eo : o_put tb RV (nI jt) (nI jk) value = some (insE (.pow (.neg ch) t) kv kv) := by unfold o_put; rw [if_pos hatk, rgs_nI hjt, rgs_nI hjk, hVt, hVk]; show (if tW (tb t) = 12 then _ else _) = _; rw [if_pos hw12]
          rw [eo]
          obtain ⟨d1, d2⟩ := ins_done (k := kv) (e := kv) hwd hch (Or.inl ⟨hw12, hkv⟩)
          rw [eb_pow hkv] at d2
          exact kO_done (x := insE (.pow (.neg ch) t) kv kv) (by rw [d2]; exact hv58) hO hT hR hj htl d1
    · rw [if_neg hq7] at hv5
      subst hv5
      refine lv_if_ne (tgt := 18) hx hb d_M_put_13 (by decide) (fun c62 => absurd c62 (by decide)) (fun _ => ?_)
      refine lv_iconst (v := (-1)) hx hb d_M_put_16 (by decide) ?_
      refine z_iretQ hx hb hr hlocks d_M_put_17 hS (Nat.le_refl _) (Nat.le_refl _) ?_
      have eo : o_put tb RV tree key value = none := if_neg hq7
      rw [eo]
      exact ⟨rfl, _, _, _, _, _, _, _, _, _, _, _, hM, hO, hT, hR, hWk⟩
  · rw [if_neg hq3] at hv1
    subst hv1
    refine lv_if_eq (tgt := 16) hx hb d_M_put_4 (by decide) (fun _ => ?_) (fun c63 => absurd c63 (by decide))
    refine lv_iconst (v := (-1)) hx hb d_M_put_16 (by decide) ?_
    refine z_iretQ hx hb hr hlocks d_M_put_17 hS (Nat.le_refl _) (Nat.le_refl _) ?_
    rw [kp_out hq3]
    exact ⟨rfl, _, _, _, _, _, _, _, _, _, _, _, hM, hO, hT, hR, hWk⟩
abbrev b_M_remove : ByteArray := prog_12_method_48_code
abbrev y_M_remove : MethodName := ⟨"ValueTreesModel", "remove", "(III)I"⟩
abbrev w_M_remove : List Cond := .code y_M_remove b_M_remove 6 (Option.some .int) :: gt
theorem hd_M_remove : (y_M_remove).cls ≠ "java/lang/invoke/MethodHandle" ∧ (y_M_remove).cls ≠ "java/lang/invoke/VarHandle" ∧ (parseMethodDescriptor (y_M_remove).desc).map (fun d => d.parameters.length) = some 3 := by decide +kernel
theorem d_M_remove_0 : decode b_M_remove 0 = .ok (.iload_n 1, 1) := by decide +kernel
theorem d_M_remove_1 : decode b_M_remove 1 = .ok (.invokestatic 66, 3) := by decide +kernel
theorem d_M_remove_4 : decode b_M_remove 4 = .ok (.ifCond .eq 12, 3) := by decide +kernel
theorem d_M_remove_7 : decode b_M_remove 7 = .ok (.aload_n 0, 1) := by decide +kernel
theorem d_M_remove_8 : decode b_M_remove 8 = .ok (.iload_n 2, 1) := by decide +kernel
theorem d_M_remove_9 : decode b_M_remove 9 = .ok (.iload_n 3, 1) := by decide +kernel
theorem d_M_remove_10 : decode b_M_remove 10 = .ok (.invokevirtual 155, 3) := by decide +kernel
theorem d_M_remove_13 : decode b_M_remove 13 = .ok (.ifCond .ne 5, 3) := by decide +kernel
theorem d_M_remove_16 : decode b_M_remove 16 = .ok (.iconst (-1), 1) := by decide +kernel
theorem d_M_remove_17 : decode b_M_remove 17 = .ok (.ireturn, 1) := by decide +kernel
theorem d_M_remove_18 : decode b_M_remove 18 = .ok (.aload_n 0, 1) := by decide +kernel
theorem d_M_remove_19 : decode b_M_remove 19 = .ok (.iload_n 2, 1) := by decide +kernel
theorem d_M_remove_20 : decode b_M_remove 20 = .ok (.iload_n 3, 1) := by decide +kernel
theorem d_M_remove_21 : decode b_M_remove 21 = .ok (.invokevirtual 159, 3) := by decide +kernel
theorem d_M_remove_24 : decode b_M_remove 24 = .ok (.istore 4, 2) := by decide +kernel
theorem d_M_remove_26 : decode b_M_remove 26 = .ok (.aload_n 0, 1) := by decide +kernel
theorem d_M_remove_27 : decode b_M_remove 27 = .ok (.iload_n 2, 1) := by decide +kernel
theorem d_M_remove_28 : decode b_M_remove 28 = .ok (.iload 4, 2) := by decide +kernel
theorem d_M_remove_30 : decode b_M_remove 30 = .ok (.iload_n 3, 1) := by decide +kernel
theorem d_M_remove_31 : decode b_M_remove 31 = .ok (.invokevirtual 162, 3) := by decide +kernel
theorem d_M_remove_34 : decode b_M_remove 34 = .ok (.ifCond .eq 18, 3) := by decide +kernel
theorem d_M_remove_37 : decode b_M_remove 37 = .ok (.aload_n 0, 1) := by decide +kernel
theorem d_M_remove_38 : decode b_M_remove 38 = .ok (.aload_n 0, 1) := by decide +kernel
theorem d_M_remove_39 : decode b_M_remove 39 = .ok (.getfield 19, 3) := by decide +kernel
theorem d_M_remove_42 : decode b_M_remove 42 = .ok (.iload_n 2, 1) := by decide +kernel
theorem d_M_remove_43 : decode b_M_remove 43 = .ok (.iaload, 1) := by decide +kernel
theorem d_M_remove_44 : decode b_M_remove 44 = .ok (.iload 4, 2) := by decide +kernel
theorem d_M_remove_46 : decode b_M_remove 46 = .ok (.invokevirtual 152, 3) := by decide +kernel
theorem d_M_remove_49 : decode b_M_remove 49 = .ok (.goto 5, 3) := by decide +kernel
theorem d_M_remove_52 : decode b_M_remove 52 = .ok (.iload 4, 2) := by decide +kernel
theorem d_M_remove_54 : decode b_M_remove 54 = .ok (.istore 5, 2) := by decide +kernel
theorem d_M_remove_56 : decode b_M_remove 56 = .ok (.aload_n 0, 1) := by decide +kernel
theorem d_M_remove_57 : decode b_M_remove 57 = .ok (.iload_n 1, 1) := by decide +kernel
theorem d_M_remove_58 : decode b_M_remove 58 = .ok (.iload_n 2, 1) := by decide +kernel
theorem d_M_remove_59 : decode b_M_remove 59 = .ok (.iload 4, 2) := by decide +kernel
theorem d_M_remove_61 : decode b_M_remove 61 = .ok (.iload 5, 2) := by decide +kernel
theorem d_M_remove_63 : decode b_M_remove 63 = .ok (.iconst (-1), 1) := by decide +kernel
theorem d_M_remove_64 : decode b_M_remove 64 = .ok (.iconst (-1), 1) := by decide +kernel
theorem d_M_remove_65 : decode b_M_remove 65 = .ok (.invokevirtual 166, 3) := by decide +kernel
theorem d_M_remove_68 : decode b_M_remove 68 = .ok (.ireturn, 1) := by decide +kernel
set_option maxHeartbeats 4000000 in
set_option maxRecDepth 100000 in
theorem p_M_remove (l : Launch) (D : va_G) (dT : Nat → ClassId) (H : Heap) (mm : Nat → Nat) (tb : Nat → TR) (tc : Nat) (RV : Nat → Option VT) (hI : mI D dT mm tb tc RV H) (r tree key : Int32) : Met l y_M_remove w_M_remove ({ frames := 210, cells := 0, slots := 0, locals := 5400 }) (z_P D dT [.ref (mm 0), .int r, .int tree, .int key] H) (z_Q (mA mm) (fun v H1 => v = some (.int (kp RV r (o_remove tb RV tree key)).1) ∧ mI D dT mm tb tc (kp RV r (o_remove tb RV tree key)).2 H1)) 0 0 (mA mm) := by
  obtain ⟨wd, lf, rt, ty, F, sz, Wk, wz, dg, dc, sh, hM, hO, hT, hR, hWk⟩ := hI
  have hF := hR.1
  have htc := hO.1
  have htc10 := hO.2.1
  refine Met.ofW (cc := b_M_remove) (maxL := 6) (ret := (Option.some .int)) (by decide) rfl ?_
  intro p e s m args below meth c s₁ B hml hv
  obtain ⟨rfl, rfl, hK⟩ := hv
  have hx := B.exec
  have hb := B.bytes
  have hr := B.returns
  have hts := atoms_spec (ws := w_M_remove) B.pre
  have ht : ∀ w9 ∈ gt, w9.before [.ref (mm 0), .int r, .int tree, .int key].toArray s = true := fun w9 h => hts w9 (List.mem_cons_of_mem _ h)
  have hown : s.vm.findClass "ValueTreesModel" = some m.cls := findClass_of_methodNamed B.named
  have hlocks := B.notSynchronized
  have hS : va_S (mA mm) s.heap s.heap [] := va_S.rf
  have hl := lv_entry ([.ref (mm 0), .int r, .int tree, .int key]) (n := 6) (Nat.le_of_ble_eq_true rfl)
  rw [lg_entry_eq]
  generalize (lg_sl ([.ref (mm 0), .int r, .int tree, .int key]) ++ List.replicate (6 - (lg_sl ([.ref (mm 0), .int r, .int tree, .int key])).length) Slot.unset).toArray = ls at hl ⊢
  have hl : lv_has ls 6 [(0, .ref (mm 0)), (1, .int r), (2, .int tree), (3, .int key)] := hl
  refine lv_iload_n hx hb d_M_remove_0 rfl (lv_at hl 1 rfl) ?_
  refine z_callR (va_runS (As := [.int r]) (rest := []) ⟨hx, hb, hml, hown, hts⟩ (c_M_isRegister l D dT _ r) ⟨callB_of 1 hts (gI gd_up gd_c q619) rfl rfl rfl (ht _ q10) (ht _ q617) hd_M_isRegister ⟨Nat.le_of_ble_eq_true rfl, Nat.le_of_ble_eq_true rfl⟩, ht _ q618⟩ (z_preS hK) rfl rfl hl.1 rfl (lv_room (Nat.le_of_ble_eq_true rfl)) d_M_remove_1 ⟨Nat.zero_le _, Nat.zero_le _⟩) (fun v2 hv1 => ?_)
  have hv1 : v2 = .int (if inR r then 1 else 0) := hv1
  rcases Classical.em (inR r) with hq3 | hq3
  · rw [if_pos hq3] at hv1
    subst hv1
    refine lv_if_eq (tgt := 16) hx hb d_M_remove_4 (by decide) (fun c4 => absurd c4 (by decide)) (fun _ => ?_)
    obtain ⟨j, hj, rfl⟩ := inR_of hq3
    refine lv_aload_n hx hb d_M_remove_7 rfl (lv_at hl 0 rfl) ?_
    refine lv_iload_n hx hb d_M_remove_8 rfl (lv_at hl 2 rfl) ?_
    refine lv_iload_n hx hb d_M_remove_9 rfl (lv_at hl 3 rfl) ?_
    refine z_callR (va_runV (C := "ValueTreesModel") (As := [.int tree, .int key]) (rest := []) ⟨hx, hb, hml, hown, hts⟩ (c_M_areTreeAndKey l D dT _ mm wd lf rt tc ty F sz Wk wz dg dc sh hM tb hO hT RV hR tree key) ⟨callB_of 2 hts (gI gd_up gd_c q723) rfl rfl rfl (ht _ q10) (ht _ q720) hd_M_areTreeAndKey ⟨Nat.le_of_ble_eq_true rfl, Nat.le_of_ble_eq_true rfl⟩, ht _ q722, ht _ qs34⟩ (z_preV hK (va_recv hK.1 hM.1 (ci := 10) (q0 := 0) rfl rfl)) rfl rfl hl.1 rfl (lv_room (Nat.le_of_ble_eq_true rfl)) d_M_remove_10 ⟨Nat.zero_le _, Nat.zero_le _⟩) (fun v6 hv5 => ?_)
    have hv5 : v6 = .int (if aTK tb RV tree key = true then 1 else 0) := hv5
    rcases Classical.em (aTK tb RV tree key = true) with hq7 | hq7
    · rw [if_pos hq7] at hv5
      subst hv5
      refine lv_if_ne (tgt := 18) hx hb d_M_remove_13 (by decide) (fun _ => ?_) (fun c8 => absurd c8 (by decide))
      have hatk := hq7
      obtain ⟨jt, jk, t, ch, kv, hjt, hjk, rfl, rfl, hVt, hVk, htl, hwd, hch, hkv, ety, etk, esz, esk, hlc, hlk, hfc, hfk⟩ := tk_facts hR hq7
      obtain ⟨hpa, hpb, hpc⟩ := skp_at (kv := kv) hch hfc
      obtain ⟨e1, e2, e3⟩ := hT t htl
      obtain ⟨hL, hlt, hlp⟩ := tl_some hO htl (by omega)
      rw [hL] at e2
      have e2 : lf t = nI (lt_ tb t) := e2
      have r1 := (hO.2.2 t htl).1
      have hpt := (hO.2.2 t htl).2.2.2.2.2.2.2.2.1
      have hwk := wty_skp kv hch
      refine lv_aload_n hx hb d_M_remove_18 rfl (lv_at hl 0 rfl) ?_
      refine lv_iload_n hx hb d_M_remove_19 rfl (lv_at hl 2 rfl) ?_
      refine lv_iload_n hx hb d_M_remove_20 rfl (lv_at hl 3 rfl) ?_
      refine z_callQ (va_runV (C := "ValueTreesModel") (As := [.int (nI jt), .int (nI jk)]) (rest := []) ⟨hx, hb, hml, hown, hts⟩ (c_M_entryFor l D dT _ mm wd lf rt tc ty F sz Wk wz dg dc sh hM hF tb hO hT jt jk t ch kv hjt hjk htl hwd hch hkv ety esz hlc hlk hfc hfk) ⟨callB_of 2 hts (gI gd_up gd_c q731) rfl rfl rfl (ht _ q10) (ht _ q728) hd_M_entryFor ⟨Nat.le_of_ble_eq_true rfl, Nat.le_of_ble_eq_true rfl⟩, ht _ q730, ht _ qs36⟩ (z_preV hK (va_recv hK.1 hM.1 (ci := 10) (q0 := 0) rfl rfl)) rfl rfl hl.1 rfl (lv_room (Nat.le_of_ble_eq_true rfl)) d_M_remove_21 ⟨Nat.le_refl _, Nat.le_refl _⟩) hS (fun _ h9 => h9) (fun v10 H locs hv9 hz11 hf12 hS => ?_)
      obtain ⟨rfl, dg, dc, sh, hM⟩ := hv9
      refine W.eq (g2 := F0 m 24 ls [.int (nI (160 * jt + 5 + (cs (prc ch kv)).length))]) rfl ?_
      refine lv_istore (lv' := [(4, .int (nI (160 * jt + 5 + (cs (prc ch kv)).length))), (0, .ref (mm 0)), (1, .int (nI j)), (2, .int (nI jt)), (3, .int (nI jk))]) hx hb d_M_remove_24 hl (by decide) rfl (fun ls hl => ?_)
      refine lv_aload_n hx hb d_M_remove_26 rfl (lv_at hl 1 rfl) ?_
      refine lv_iload_n hx hb d_M_remove_27 rfl (lv_at hl 3 rfl) ?_
      refine lv_iload hx hb d_M_remove_28 (lv_at hl 0 rfl) ?_
      refine lv_iload_n hx hb d_M_remove_30 rfl (lv_at hl 4 rfl) ?_
      refine z_callQ (va_runV (C := "ValueTreesModel") (As := [.int (nI jt), .int (nI (160 * jt + 5 + (cs (prc ch kv)).length)), .int (nI jk)]) (rest := []) ⟨hx, hb, hml, hown, hts⟩ (c_M_isThere l D dT _ mm wd lf rt tc ty F sz Wk wz dg dc sh hM hF tb hO hT jt jk t ch kv hjt hjk htl hwd hch hkv ety esz hlc hlk hfc hfk (skp ch kv) (cs (prc ch kv)).length (wty_skp kv hch) hpc hpb) ⟨callB_of 3 hts (gI gd_up gd_c q774) rfl rfl rfl (ht _ q10) (ht _ q771) hd_M_isThere ⟨Nat.le_of_ble_eq_true rfl, Nat.le_of_ble_eq_true rfl⟩, ht _ q773, ht _ qs46⟩ (z_preV hK (va_recv hK.1 hM.1 (ci := 10) (q0 := 0) rfl rfl)) rfl rfl hl.1 rfl (lv_room (Nat.le_of_ble_eq_true rfl)) d_M_remove_31 ⟨Nat.le_refl _, Nat.le_refl _⟩) hS (fun _ h9 => h9) (fun v14 H locs hv13 hz15 hf16 hS => ?_)
      obtain ⟨rfl, dg, dc, sh, hM⟩ := hv13
      refine W.eq (g2 := F0 m 34 ls [.int (if thr (skp ch kv) kv = true then 1 else 0)]) rfl ?_
      rcases Classical.em (thr (skp ch kv) kv = true) with hthr | hthr
      · rw [if_pos hthr]
        refine lv_if_eq (tgt := 52) hx hb d_M_remove_34 (by decide) (fun c17 => absurd c17 (by decide)) (fun _ => ?_)
        obtain ⟨e9, r9, hsk, hwe, hr9, hvo9⟩ := skp_thr hch hthr
        have hlm : (cs (skp ch kv)).length = (eb e9).length + (cs r9).length := by rw [hsk, cs_mul, List.length_append]
        have hfe9 : fAt F (160 * jt + 5 + (cs (prc ch kv)).length) (eb e9) ∧ fAt F (160 * jt + 5 + (cs (prc ch kv)).length + (eb e9).length) (cs r9) := by have h8 := hpb; rw [hsk, cs_mul, fAt_app] at h8; exact h8
        have hfe := hfe9.1
        refine lv_aload_n hx hb d_M_remove_37 rfl (lv_at hl 1 rfl) ?_
        refine lv_aload_n hx hb d_M_remove_38 rfl (lv_at hl 1 rfl) ?_
        refine va_get (D := D) (ci := 10) (v := .ref (mm 4)) (C := "ValueTreesModel") (T := T_M) (N := 12) hx hb ht in_M hown hK.1 hM.1 0 rfl rfl 4 (by decide) (ht _ q543) (fun _ h9 => h9) rfl d_M_remove_39 ?_
        refine lv_iload_n hx hb d_M_remove_42 rfl (lv_at hl 3 rfl) ?_
        refine z_iald hx hb hK (hM.1 4 _ rfl) jt rfl (by omega) (by decide) d_M_remove_43 ?_
        rw [ety]
        refine lv_iload hx hb d_M_remove_44 (lv_at hl 0 rfl) ?_
        refine z_callR (va_runV (C := "ValueTreesModel") (As := [.int (nI t), .int (nI (160 * jt + 5 + (cs (prc ch kv)).length))]) (rest := []) ⟨hx, hb, hml, hown, hts⟩ (c_M_entryEnd l D dT _ mm wd lf rt tc ty F sz Wk wz dg dc sh hM hF tb hO hT t (160 * jt + 5 + (cs (prc ch kv)).length) e9 (by omega) hwd hwe hfe (by omega)) ⟨callB_of 2 hts (gI gd_up gd_c q770) rfl rfl rfl (ht _ q10) (ht _ q767) hd_M_entryEnd ⟨Nat.le_of_ble_eq_true rfl, Nat.le_of_ble_eq_true rfl⟩, ht _ q769, ht _ qs45⟩ (z_preV hK (va_recv hK.1 hM.1 (ci := 10) (q0 := 0) rfl rfl)) rfl rfl hl.1 rfl (lv_room (Nat.le_of_ble_eq_true rfl)) d_M_remove_46 ⟨Nat.zero_le _, Nat.zero_le _⟩) (fun v19 hv18 => ?_)
        subst hv18
        refine lv_goto (tgt := 54) hx hb d_M_remove_49 (by decide) ?_
        refine lv_istore (lv' := [(5, .int (nI (160 * jt + 5 + (cs (prc ch kv)).length + (eb e9).length))), (4, .int (nI (160 * jt + 5 + (cs (prc ch kv)).length))), (0, .ref (mm 0)), (1, .int (nI j)), (2, .int (nI jt)), (3, .int (nI jk))]) hx hb d_M_remove_54 hl (by decide) rfl (fun ls hl => ?_)
        refine lv_aload_n hx hb d_M_remove_56 rfl (lv_at hl 2 rfl) ?_
        refine lv_iload_n hx hb d_M_remove_57 rfl (lv_at hl 3 rfl) ?_
        refine lv_iload_n hx hb d_M_remove_58 rfl (lv_at hl 4 rfl) ?_
        refine lv_iload hx hb d_M_remove_59 (lv_at hl 1 rfl) ?_
        refine lv_iload hx hb d_M_remove_61 (lv_at hl 0 rfl) ?_
        refine lv_iconst (v := (-1)) hx hb d_M_remove_63 (by decide) ?_
        refine lv_iconst (v := (-1)) hx hb d_M_remove_64 (by decide) ?_
        have hrs : rst ch kv = r9 := by rw [rst_t hthr, hsk]; rfl
        have hrl : (cs (rst ch kv)).length ≤ (cs (skp ch kv)).length := by rw [hrs]; first | omega | exact Nat.le_refl _
        refine z_callQ (va_runV (C := "ValueTreesModel") (As := [.int (nI j), .int (nI jt), .int (nI (160 * jt + 5 + (cs (prc ch kv)).length)), .int (nI (160 * jt + 5 + (cs (prc ch kv)).length + (eb e9).length)), .int (-1), .int (-1)]) (rest := []) ⟨hx, hb, hml, hown, hts⟩ (c_M_rewrite_rem l D dT _ mm wd lf rt tc ty F sz Wk wz dg dc sh hM hF tb hO hT hWk j jt t ((160 * jt + 5 + (cs (prc ch kv)).length) + (eb e9).length) (5 + (cs ch).length) (cs (prc ch kv)) (cs (rst ch kv)) hj hjt htl hwd ety esz hlc hpa (by omega) (by rw [hrs]; exact hfe9.2) (by omega) (by rw [hrs]; omega)) ⟨callB_of 6 hts (gI gd_up gd_c q778) rfl rfl rfl (ht _ q10) (ht _ q775) hd_M_rewrite ⟨Nat.le_of_ble_eq_true rfl, Nat.le_of_ble_eq_true rfl⟩, ht _ q777, ht _ qs47⟩ (z_preV hK (va_recv hK.1 hM.1 (ci := 10) (q0 := 0) rfl rfl)) rfl rfl hl.1 rfl (lv_room (Nat.le_of_ble_eq_true rfl)) d_M_remove_65 ⟨Nat.le_refl _, Nat.le_refl _⟩) hS (fun _ h9 => h9) (fun v21 H locs hv20 hz22 hf23 hS => ?_)
        obtain ⟨r9v, er9⟩ : ∃ r9 : Int32, v21 = some (.int r9) := by obtain ⟨_, _, _, _, _, -, ⟨-, e8, -⟩ | ⟨-, e8, -⟩⟩ := hv20 <;> exact ⟨_, e8⟩
        subst er9
        refine W.eq (g2 := F0 m 68 ls [.int r9v]) rfl ?_
        refine z_iretQ hx hb hr hlocks d_M_remove_68 hS (Nat.le_refl _) (Nat.le_refl _) ?_
        have eo : o_remove tb RV (nI jt) (nI jk) = some (remE (.pow (.neg ch) t) kv) := by unfold o_remove; rw [if_pos hatk, rgs_nI hjt, rgs_nI hjk, hVt, hVk]
        rw [eo]
        obtain ⟨d1, d2⟩ := rem_done (k := kv) hwd hch
        exact kO_done (x := remE (.pow (.neg ch) t) kv) (by rw [d2]; exact hv20) hO hT hR hj htl d1
      · rw [if_neg hthr]
        refine lv_if_eq (tgt := 52) hx hb d_M_remove_34 (by decide) (fun _ => ?_) (fun c24 => absurd c24 (by decide))
        refine lv_iload hx hb d_M_remove_52 (lv_at hl 0 rfl) ?_
        refine lv_istore (lv' := [(5, .int (nI (160 * jt + 5 + (cs (prc ch kv)).length))), (4, .int (nI (160 * jt + 5 + (cs (prc ch kv)).length))), (0, .ref (mm 0)), (1, .int (nI j)), (2, .int (nI jt)), (3, .int (nI jk))]) hx hb d_M_remove_54 hl (by decide) rfl (fun ls hl => ?_)
        refine lv_aload_n hx hb d_M_remove_56 rfl (lv_at hl 2 rfl) ?_
        refine lv_iload_n hx hb d_M_remove_57 rfl (lv_at hl 3 rfl) ?_
        refine lv_iload_n hx hb d_M_remove_58 rfl (lv_at hl 4 rfl) ?_
        refine lv_iload hx hb d_M_remove_59 (lv_at hl 1 rfl) ?_
        refine lv_iload hx hb d_M_remove_61 (lv_at hl 0 rfl) ?_
        refine lv_iconst (v := (-1)) hx hb d_M_remove_63 (by decide) ?_
        refine lv_iconst (v := (-1)) hx hb d_M_remove_64 (by decide) ?_
        have hrs : rst ch kv = skp ch kv := rst_f hthr
        have hrl : (cs (rst ch kv)).length ≤ (cs (skp ch kv)).length := by rw [hrs]; first | omega | exact Nat.le_refl _
        refine z_callQ (va_runV (C := "ValueTreesModel") (As := [.int (nI j), .int (nI jt), .int (nI (160 * jt + 5 + (cs (prc ch kv)).length)), .int (nI (160 * jt + 5 + (cs (prc ch kv)).length)), .int (-1), .int (-1)]) (rest := []) ⟨hx, hb, hml, hown, hts⟩ (c_M_rewrite_rem l D dT _ mm wd lf rt tc ty F sz Wk wz dg dc sh hM hF tb hO hT hWk j jt t (160 * jt + 5 + (cs (prc ch kv)).length) (5 + (cs ch).length) (cs (prc ch kv)) (cs (rst ch kv)) hj hjt htl hwd ety esz hlc hpa (by omega) (by rw [hrs]; exact hpb) (by omega) (by rw [hrs]; omega)) ⟨callB_of 6 hts (gI gd_up gd_c q778) rfl rfl rfl (ht _ q10) (ht _ q775) hd_M_rewrite ⟨Nat.le_of_ble_eq_true rfl, Nat.le_of_ble_eq_true rfl⟩, ht _ q777, ht _ qs47⟩ (z_preV hK (va_recv hK.1 hM.1 (ci := 10) (q0 := 0) rfl rfl)) rfl rfl hl.1 rfl (lv_room (Nat.le_of_ble_eq_true rfl)) d_M_remove_65 ⟨Nat.le_refl _, Nat.le_refl _⟩) hS (fun _ h9 => h9) (fun v26 H locs hv25 hz27 hf28 hS => ?_)
        obtain ⟨r9v, er9⟩ : ∃ r9 : Int32, v26 = some (.int r9) := by obtain ⟨_, _, _, _, _, -, ⟨-, e8, -⟩ | ⟨-, e8, -⟩⟩ := hv25 <;> exact ⟨_, e8⟩
        subst er9
        refine W.eq (g2 := F0 m 68 ls [.int r9v]) rfl ?_
        refine z_iretQ hx hb hr hlocks d_M_remove_68 hS (Nat.le_refl _) (Nat.le_refl _) ?_
        have eo : o_remove tb RV (nI jt) (nI jk) = some (remE (.pow (.neg ch) t) kv) := by unfold o_remove; rw [if_pos hatk, rgs_nI hjt, rgs_nI hjk, hVt, hVk]
        rw [eo]
        obtain ⟨d1, d2⟩ := rem_done (k := kv) hwd hch
        exact kO_done (x := remE (.pow (.neg ch) t) kv) (by rw [d2]; exact hv25) hO hT hR hj htl d1
    · rw [if_neg hq7] at hv5
      subst hv5
      refine lv_if_ne (tgt := 18) hx hb d_M_remove_13 (by decide) (fun c29 => absurd c29 (by decide)) (fun _ => ?_)
      refine lv_iconst (v := (-1)) hx hb d_M_remove_16 (by decide) ?_
      refine z_iretQ hx hb hr hlocks d_M_remove_17 hS (Nat.le_refl _) (Nat.le_refl _) ?_
      have eo : o_remove tb RV tree key = none := if_neg hq7
      rw [eo]
      exact ⟨rfl, _, _, _, _, _, _, _, _, _, _, _, hM, hO, hT, hR, hWk⟩
  · rw [if_neg hq3] at hv1
    subst hv1
    refine lv_if_eq (tgt := 16) hx hb d_M_remove_4 (by decide) (fun _ => ?_) (fun c30 => absurd c30 (by decide))
    refine lv_iconst (v := (-1)) hx hb d_M_remove_16 (by decide) ?_
    refine z_iretQ hx hb hr hlocks d_M_remove_17 hS (Nat.le_refl _) (Nat.le_refl _) ?_
    rw [kp_out hq3]
    exact ⟨rfl, _, _, _, _, _, _, _, _, _, _, _, hM, hO, hT, hR, hWk⟩
theorem get_set {tb : Nat → TR} {t : Nat} {ch k : VT} (h12 : tW (tb t) = 12) (h : wty tb ch (cmd tb t) t) : (if thr (skp ch k) k = true then (fstE (skp ch k)).bind valOf else none) = none := by
  split
  · next ht =>
    obtain ⟨e, r, he, ⟨-, hw⟩ | ⟨h2, -⟩, -⟩ := skp_thr h ht
    · obtain ⟨c, rfl, -⟩ := wty_pow hw
      rw [he]; rfl
    · exact absurd h12 h2
  · rfl
abbrev b_M_get : ByteArray := prog_12_method_51_code
abbrev y_M_get : MethodName := ⟨"ValueTreesModel", "get", "(III)I"⟩
abbrev w_M_get : List Cond := .code y_M_get b_M_get 6 (Option.some .int) :: gt
theorem hd_M_get : (y_M_get).cls ≠ "java/lang/invoke/MethodHandle" ∧ (y_M_get).cls ≠ "java/lang/invoke/VarHandle" ∧ (parseMethodDescriptor (y_M_get).desc).map (fun d => d.parameters.length) = some 3 := by decide +kernel
theorem d_M_get_0 : decode b_M_get 0 = .ok (.iload_n 1, 1) := by decide +kernel
theorem d_M_get_1 : decode b_M_get 1 = .ok (.invokestatic 66, 3) := by decide +kernel
theorem d_M_get_4 : decode b_M_get 4 = .ok (.ifCond .eq 25, 3) := by decide +kernel
theorem d_M_get_7 : decode b_M_get 7 = .ok (.aload_n 0, 1) := by decide +kernel
theorem d_M_get_8 : decode b_M_get 8 = .ok (.iload_n 2, 1) := by decide +kernel
theorem d_M_get_9 : decode b_M_get 9 = .ok (.iload_n 3, 1) := by decide +kernel
theorem d_M_get_10 : decode b_M_get 10 = .ok (.invokevirtual 155, 3) := by decide +kernel
theorem d_M_get_13 : decode b_M_get 13 = .ok (.ifCond .eq 16, 3) := by decide +kernel
theorem d_M_get_16 : decode b_M_get 16 = .ok (.aload_n 0, 1) := by decide +kernel
theorem d_M_get_17 : decode b_M_get 17 = .ok (.aload_n 0, 1) := by decide +kernel
theorem d_M_get_18 : decode b_M_get 18 = .ok (.getfield 19, 3) := by decide +kernel
theorem d_M_get_21 : decode b_M_get 21 = .ok (.iload_n 2, 1) := by decide +kernel
theorem d_M_get_22 : decode b_M_get 22 = .ok (.iaload, 1) := by decide +kernel
theorem d_M_get_23 : decode b_M_get 23 = .ok (.invokevirtual 143, 3) := by decide +kernel
theorem d_M_get_26 : decode b_M_get 26 = .ok (.ifCond .ne 5, 3) := by decide +kernel
theorem d_M_get_29 : decode b_M_get 29 = .ok (.iconst (-1), 1) := by decide +kernel
theorem d_M_get_30 : decode b_M_get 30 = .ok (.ireturn, 1) := by decide +kernel
theorem d_M_get_31 : decode b_M_get 31 = .ok (.aload_n 0, 1) := by decide +kernel
theorem d_M_get_32 : decode b_M_get 32 = .ok (.iload_n 2, 1) := by decide +kernel
theorem d_M_get_33 : decode b_M_get 33 = .ok (.iload_n 3, 1) := by decide +kernel
theorem d_M_get_34 : decode b_M_get 34 = .ok (.invokevirtual 159, 3) := by decide +kernel
theorem d_M_get_37 : decode b_M_get 37 = .ok (.istore 4, 2) := by decide +kernel
theorem d_M_get_39 : decode b_M_get 39 = .ok (.aload_n 0, 1) := by decide +kernel
theorem d_M_get_40 : decode b_M_get 40 = .ok (.getfield 19, 3) := by decide +kernel
theorem d_M_get_43 : decode b_M_get 43 = .ok (.iload_n 2, 1) := by decide +kernel
theorem d_M_get_44 : decode b_M_get 44 = .ok (.iaload, 1) := by decide +kernel
theorem d_M_get_45 : decode b_M_get 45 = .ok (.istore 5, 2) := by decide +kernel
theorem d_M_get_47 : decode b_M_get 47 = .ok (.aload_n 0, 1) := by decide +kernel
theorem d_M_get_48 : decode b_M_get 48 = .ok (.iload_n 2, 1) := by decide +kernel
theorem d_M_get_49 : decode b_M_get 49 = .ok (.iload 4, 2) := by decide +kernel
theorem d_M_get_51 : decode b_M_get 51 = .ok (.iload_n 3, 1) := by decide +kernel
theorem d_M_get_52 : decode b_M_get 52 = .ok (.invokevirtual 162, 3) := by decide +kernel
theorem d_M_get_55 : decode b_M_get 55 = .ok (.ifCond .eq 41, 3) := by decide +kernel
theorem d_M_get_58 : decode b_M_get 58 = .ok (.aload_n 0, 1) := by decide +kernel
theorem d_M_get_59 : decode b_M_get 59 = .ok (.iload_n 1, 1) := by decide +kernel
theorem d_M_get_60 : decode b_M_get 60 = .ok (.aload_n 0, 1) := by decide +kernel
theorem d_M_get_61 : decode b_M_get 61 = .ok (.getfield 16, 3) := by decide +kernel
theorem d_M_get_64 : decode b_M_get 64 = .ok (.iload 5, 2) := by decide +kernel
theorem d_M_get_66 : decode b_M_get 66 = .ok (.iaload, 1) := by decide +kernel
theorem d_M_get_67 : decode b_M_get 67 = .ok (.aload_n 0, 1) := by decide +kernel
theorem d_M_get_68 : decode b_M_get 68 = .ok (.aload_n 0, 1) := by decide +kernel
theorem d_M_get_69 : decode b_M_get 69 = .ok (.getfield 13, 3) := by decide +kernel
theorem d_M_get_72 : decode b_M_get 72 = .ok (.iload 5, 2) := by decide +kernel
theorem d_M_get_74 : decode b_M_get 74 = .ok (.iaload, 1) := by decide +kernel
theorem d_M_get_75 : decode b_M_get 75 = .ok (.iload 4, 2) := by decide +kernel
theorem d_M_get_77 : decode b_M_get 77 = .ok (.iconst 2, 1) := by decide +kernel
theorem d_M_get_78 : decode b_M_get 78 = .ok (.iadd, 1) := by decide +kernel
theorem d_M_get_79 : decode b_M_get 79 = .ok (.invokevirtual 78, 3) := by decide +kernel
theorem d_M_get_82 : decode b_M_get 82 = .ok (.aload_n 0, 1) := by decide +kernel
theorem d_M_get_83 : decode b_M_get 83 = .ok (.iload 5, 2) := by decide +kernel
theorem d_M_get_85 : decode b_M_get 85 = .ok (.iload 4, 2) := by decide +kernel
theorem d_M_get_87 : decode b_M_get 87 = .ok (.invokevirtual 152, 3) := by decide +kernel
theorem d_M_get_90 : decode b_M_get 90 = .ok (.invokevirtual 170, 3) := by decide +kernel
theorem d_M_get_93 : decode b_M_get 93 = .ok (.goto 4, 3) := by decide +kernel
theorem d_M_get_96 : decode b_M_get 96 = .ok (.iconst (-1), 1) := by decide +kernel
theorem d_M_get_97 : decode b_M_get 97 = .ok (.ireturn, 1) := by decide +kernel
set_option maxHeartbeats 4000000 in
set_option maxRecDepth 100000 in
theorem p_M_get (l : Launch) (D : va_G) (dT : Nat → ClassId) (H : Heap) (mm : Nat → Nat) (tb : Nat → TR) (tc : Nat) (RV : Nat → Option VT) (hI : mI D dT mm tb tc RV H) (r tree key : Int32) : Met l y_M_get w_M_get ({ frames := 210, cells := 0, slots := 0, locals := 5400 }) (z_P D dT [.ref (mm 0), .int r, .int tree, .int key] H) (z_Q (mA mm) (fun v H1 => v = some (.int (kp RV r (o_get tb RV tree key)).1) ∧ mI D dT mm tb tc (kp RV r (o_get tb RV tree key)).2 H1)) 0 0 (mA mm) := by
  obtain ⟨wd, lf, rt, ty, F, sz, Wk, wz, dg, dc, sh, hM, hO, hT, hR, hWk⟩ := hI
  have hF := hR.1
  have htc := hO.1
  have htc10 := hO.2.1
  refine Met.ofW (cc := b_M_get) (maxL := 6) (ret := (Option.some .int)) (by decide) rfl ?_
  intro p e s m args below meth c s₁ B hml hv
  obtain ⟨rfl, rfl, hK⟩ := hv
  have hx := B.exec
  have hb := B.bytes
  have hr := B.returns
  have hts := atoms_spec (ws := w_M_get) B.pre
  have ht : ∀ w9 ∈ gt, w9.before [.ref (mm 0), .int r, .int tree, .int key].toArray s = true := fun w9 h => hts w9 (List.mem_cons_of_mem _ h)
  have hown : s.vm.findClass "ValueTreesModel" = some m.cls := findClass_of_methodNamed B.named
  have hlocks := B.notSynchronized
  have hS : va_S (mA mm) s.heap s.heap [] := va_S.rf
  have hl := lv_entry ([.ref (mm 0), .int r, .int tree, .int key]) (n := 6) (Nat.le_of_ble_eq_true rfl)
  rw [lg_entry_eq]
  generalize (lg_sl ([.ref (mm 0), .int r, .int tree, .int key]) ++ List.replicate (6 - (lg_sl ([.ref (mm 0), .int r, .int tree, .int key])).length) Slot.unset).toArray = ls at hl ⊢
  have hl : lv_has ls 6 [(0, .ref (mm 0)), (1, .int r), (2, .int tree), (3, .int key)] := hl
  refine lv_iload_n hx hb d_M_get_0 rfl (lv_at hl 1 rfl) ?_
  refine z_callR (va_runS (As := [.int r]) (rest := []) ⟨hx, hb, hml, hown, hts⟩ (c_M_isRegister l D dT _ r) ⟨callB_of 1 hts (gI gd_up gd_c q619) rfl rfl rfl (ht _ q10) (ht _ q617) hd_M_isRegister ⟨Nat.le_of_ble_eq_true rfl, Nat.le_of_ble_eq_true rfl⟩, ht _ q618⟩ (z_preS hK) rfl rfl hl.1 rfl (lv_room (Nat.le_of_ble_eq_true rfl)) d_M_get_1 ⟨Nat.zero_le _, Nat.zero_le _⟩) (fun v2 hv1 => ?_)
  have hv1 : v2 = .int (if inR r then 1 else 0) := hv1
  rcases Classical.em (inR r) with hq3 | hq3
  · rw [if_pos hq3] at hv1
    subst hv1
    refine lv_if_eq (tgt := 29) hx hb d_M_get_4 (by decide) (fun c4 => absurd c4 (by decide)) (fun _ => ?_)
    obtain ⟨j, hj, rfl⟩ := inR_of hq3
    refine lv_aload_n hx hb d_M_get_7 rfl (lv_at hl 0 rfl) ?_
    refine lv_iload_n hx hb d_M_get_8 rfl (lv_at hl 2 rfl) ?_
    refine lv_iload_n hx hb d_M_get_9 rfl (lv_at hl 3 rfl) ?_
    refine z_callR (va_runV (C := "ValueTreesModel") (As := [.int tree, .int key]) (rest := []) ⟨hx, hb, hml, hown, hts⟩ (c_M_areTreeAndKey l D dT _ mm wd lf rt tc ty F sz Wk wz dg dc sh hM tb hO hT RV hR tree key) ⟨callB_of 2 hts (gI gd_up gd_c q723) rfl rfl rfl (ht _ q10) (ht _ q720) hd_M_areTreeAndKey ⟨Nat.le_of_ble_eq_true rfl, Nat.le_of_ble_eq_true rfl⟩, ht _ q722, ht _ qs34⟩ (z_preV hK (va_recv hK.1 hM.1 (ci := 10) (q0 := 0) rfl rfl)) rfl rfl hl.1 rfl (lv_room (Nat.le_of_ble_eq_true rfl)) d_M_get_10 ⟨Nat.zero_le _, Nat.zero_le _⟩) (fun v6 hv5 => ?_)
    have hv5 : v6 = .int (if aTK tb RV tree key = true then 1 else 0) := hv5
    rcases Classical.em (aTK tb RV tree key = true) with hq7 | hq7
    · rw [if_pos hq7] at hv5
      subst hv5
      refine lv_if_eq (tgt := 29) hx hb d_M_get_13 (by decide) (fun c8 => absurd c8 (by decide)) (fun _ => ?_)
      have hatk := hq7
      obtain ⟨jt, jk, t, ch, kv, hjt, hjk, rfl, rfl, hVt, hVk, htl, hwd, hch, hkv, ety, etk, esz, esk, hlc, hlk, hfc, hfk⟩ := tk_facts hR hq7
      obtain ⟨hpa, hpb, hpc⟩ := skp_at (kv := kv) hch hfc
      obtain ⟨e1, e2, e3⟩ := hT t htl
      obtain ⟨hL, hlt, hlp⟩ := tl_some hO htl (by omega)
      rw [hL] at e2
      have e2 : lf t = nI (lt_ tb t) := e2
      have r1 := (hO.2.2 t htl).1
      have hpt := (hO.2.2 t htl).2.2.2.2.2.2.2.2.1
      have hwk := wty_skp kv hch
      refine lv_aload_n hx hb d_M_get_16 rfl (lv_at hl 0 rfl) ?_
      refine lv_aload_n hx hb d_M_get_17 rfl (lv_at hl 0 rfl) ?_
      refine va_get (D := D) (ci := 10) (v := .ref (mm 4)) (C := "ValueTreesModel") (T := T_M) (N := 12) hx hb ht in_M hown hK.1 hM.1 0 rfl rfl 4 (by decide) (ht _ q543) (fun _ h9 => h9) rfl d_M_get_18 ?_
      refine lv_iload_n hx hb d_M_get_21 rfl (lv_at hl 2 rfl) ?_
      refine z_iald hx hb hK (hM.1 4 _ rfl) jt rfl (by omega) (by decide) d_M_get_22 ?_
      rw [ety]
      refine z_callR (va_runV (C := "ValueTreesModel") (As := [.int (nI t)]) (rest := []) ⟨hx, hb, hml, hown, hts⟩ (c_M_isKeyed l D dT _ mm wd lf rt tc ty F sz Wk wz dg dc sh hM tb hO hT t (by omega)) ⟨callB_of 1 hts (gI gd_up gd_c q727) rfl rfl rfl (ht _ q10) (ht _ q724) hd_M_isKeyed ⟨Nat.le_of_ble_eq_true rfl, Nat.le_of_ble_eq_true rfl⟩, ht _ q726, ht _ qs35⟩ (z_preV hK (va_recv hK.1 hM.1 (ci := 10) (q0 := 0) rfl rfl)) rfl rfl hl.1 rfl (lv_room (Nat.le_of_ble_eq_true rfl)) d_M_get_23 ⟨Nat.zero_le _, Nat.zero_le _⟩) (fun v10 hv9 => ?_)
      have hv9 : v10 = .int (if ¬ tW (tb t) = 12 then 1 else 0) := hv9
      rcases Classical.em (¬ tW (tb t) = 12) with hq11 | hq11
      · rw [if_pos hq11] at hv9
        subst hv9
        refine lv_if_ne (tgt := 31) hx hb d_M_get_26 (by decide) (fun _ => ?_) (fun c12 => absurd c12 (by decide))
        have hw12 := hq11
        obtain ⟨hRr, hrt, hrp⟩ := tr_some hO htl (by omega)
        rw [hRr] at e3
        have e3 : rt t = nI (rt_ tb t) := e3
        have hpl := (hO.2.2 _ (show lt_ tb t < tc by omega)).2.2.2.2.2.2.2.2.1
        refine lv_aload_n hx hb d_M_get_31 rfl (lv_at hl 0 rfl) ?_
        refine lv_iload_n hx hb d_M_get_32 rfl (lv_at hl 2 rfl) ?_
        refine lv_iload_n hx hb d_M_get_33 rfl (lv_at hl 3 rfl) ?_
        refine z_callQ (va_runV (C := "ValueTreesModel") (As := [.int (nI jt), .int (nI jk)]) (rest := []) ⟨hx, hb, hml, hown, hts⟩ (c_M_entryFor l D dT _ mm wd lf rt tc ty F sz Wk wz dg dc sh hM hF tb hO hT jt jk t ch kv hjt hjk htl hwd hch hkv ety esz hlc hlk hfc hfk) ⟨callB_of 2 hts (gI gd_up gd_c q731) rfl rfl rfl (ht _ q10) (ht _ q728) hd_M_entryFor ⟨Nat.le_of_ble_eq_true rfl, Nat.le_of_ble_eq_true rfl⟩, ht _ q730, ht _ qs36⟩ (z_preV hK (va_recv hK.1 hM.1 (ci := 10) (q0 := 0) rfl rfl)) rfl rfl hl.1 rfl (lv_room (Nat.le_of_ble_eq_true rfl)) d_M_get_34 ⟨Nat.le_refl _, Nat.le_refl _⟩) hS (fun _ h9 => h9) (fun v14 H locs hv13 hz15 hf16 hS => ?_)
        obtain ⟨rfl, dg, dc, sh, hM⟩ := hv13
        refine W.eq (g2 := F0 m 37 ls [.int (nI (160 * jt + 5 + (cs (prc ch kv)).length))]) rfl ?_
        refine lv_istore (lv' := [(4, .int (nI (160 * jt + 5 + (cs (prc ch kv)).length))), (0, .ref (mm 0)), (1, .int (nI j)), (2, .int (nI jt)), (3, .int (nI jk))]) hx hb d_M_get_37 hl (by decide) rfl (fun ls hl => ?_)
        refine lv_aload_n hx hb d_M_get_39 rfl (lv_at hl 1 rfl) ?_
        refine va_get (D := D) (ci := 10) (v := .ref (mm 4)) (C := "ValueTreesModel") (T := T_M) (N := 12) hx hb ht in_M hown hK.1 hM.1 0 rfl rfl 4 (by decide) (ht _ q543) (fun _ h9 => h9) rfl d_M_get_40 ?_
        refine lv_iload_n hx hb d_M_get_43 rfl (lv_at hl 3 rfl) ?_
        refine z_iald hx hb hK (hM.1 4 _ rfl) jt rfl (by omega) (by decide) d_M_get_44 ?_
        rw [ety]
        refine lv_istore (lv' := [(5, .int (nI t)), (4, .int (nI (160 * jt + 5 + (cs (prc ch kv)).length))), (0, .ref (mm 0)), (1, .int (nI j)), (2, .int (nI jt)), (3, .int (nI jk))]) hx hb d_M_get_45 hl (by decide) rfl (fun ls hl => ?_)
        refine lv_aload_n hx hb d_M_get_47 rfl (lv_at hl 2 rfl) ?_
        refine lv_iload_n hx hb d_M_get_48 rfl (lv_at hl 4 rfl) ?_
        refine lv_iload hx hb d_M_get_49 (lv_at hl 1 rfl) ?_
        refine lv_iload_n hx hb d_M_get_51 rfl (lv_at hl 5 rfl) ?_
        refine z_callQ (va_runV (C := "ValueTreesModel") (As := [.int (nI jt), .int (nI (160 * jt + 5 + (cs (prc ch kv)).length)), .int (nI jk)]) (rest := []) ⟨hx, hb, hml, hown, hts⟩ (c_M_isThere l D dT _ mm wd lf rt tc ty F sz Wk wz dg dc sh hM hF tb hO hT jt jk t ch kv hjt hjk htl hwd hch hkv ety esz hlc hlk hfc hfk (skp ch kv) (cs (prc ch kv)).length (wty_skp kv hch) hpc hpb) ⟨callB_of 3 hts (gI gd_up gd_c q774) rfl rfl rfl (ht _ q10) (ht _ q771) hd_M_isThere ⟨Nat.le_of_ble_eq_true rfl, Nat.le_of_ble_eq_true rfl⟩, ht _ q773, ht _ qs46⟩ (z_preV hK (va_recv hK.1 hM.1 (ci := 10) (q0 := 0) rfl rfl)) rfl rfl hl.1 rfl (lv_room (Nat.le_of_ble_eq_true rfl)) d_M_get_52 ⟨Nat.le_refl _, Nat.le_refl _⟩) hS (fun _ h9 => h9) (fun v18 H locs hv17 hz19 hf20 hS => ?_)
        obtain ⟨rfl, dg, dc, sh, hM⟩ := hv17
        refine W.eq (g2 := F0 m 55 ls [.int (if thr (skp ch kv) kv = true then 1 else 0)]) rfl ?_
        rcases Classical.em (thr (skp ch kv) kv = true) with hthr | hthr
        · rw [if_pos hthr]
          refine lv_if_eq (tgt := 96) hx hb d_M_get_55 (by decide) (fun c21 => absurd c21 (by decide)) (fun _ => ?_)
          obtain ⟨e9, r9, hsk, hwe, hr9, hvo9⟩ := skp_thr hch hthr
          have hlm : (cs (skp ch kv)).length = (eb e9).length + (cs r9).length := by rw [hsk, cs_mul, List.length_append]
          have hfe9 : fAt F (160 * jt + 5 + (cs (prc ch kv)).length) (eb e9) ∧ fAt F (160 * jt + 5 + (cs (prc ch kv)).length + (eb e9).length) (cs r9) := by have h8 := hpb; rw [hsk, cs_mul, fAt_app] at h8; exact h8
          have hfe := hfe9.1
          obtain ⟨h12, -⟩ | ⟨-, k9, x9, rfl, hk9w, hx9w⟩ := id hwe
          · exact absurd h12 hw12
          have hle : (eb (.add k9 x9)).length = 2 + (cs k9).length + (cs x9).length := by show ([7, 4] ++ (cs k9 ++ cs x9)).length = _; simp; omega
          have hfx : fAt F (160 * jt + 5 + (cs (prc ch kv)).length) ([7, 4] ++ (cs k9 ++ cs x9)) := hfe
          rw [fAt_app, fAt_app] at hfx
          have hfk9 : fAt F (160 * jt + 5 + (cs (prc ch kv)).length + 2) (cs k9) := hfx.2.1
          have hfx9 : fAt F (160 * jt + 5 + (cs (prc ch kv)).length + 2 + (cs k9).length) (cs x9) := hfx.2.2
          refine lv_aload_n hx hb d_M_get_58 rfl (lv_at hl 2 rfl) ?_
          refine lv_iload_n hx hb d_M_get_59 rfl (lv_at hl 3 rfl) ?_
          refine lv_aload_n hx hb d_M_get_60 rfl (lv_at hl 2 rfl) ?_
          refine va_get (D := D) (ci := 10) (v := .ref (mm 3)) (C := "ValueTreesModel") (T := T_M) (N := 12) hx hb ht in_M hown hK.1 hM.1 0 rfl rfl 2 (by decide) (ht _ q541) (fun _ h9 => h9) rfl d_M_get_61 ?_
          refine lv_iload hx hb d_M_get_64 (lv_at hl 0 rfl) ?_
          refine z_iald hx hb hK (hM.1 3 _ rfl) t rfl (by omega) (by decide) d_M_get_66 ?_
          rw [e3]
          refine lv_aload_n hx hb d_M_get_67 rfl (lv_at hl 2 rfl) ?_
          refine lv_aload_n hx hb d_M_get_68 rfl (lv_at hl 2 rfl) ?_
          refine va_get (D := D) (ci := 10) (v := .ref (mm 2)) (C := "ValueTreesModel") (T := T_M) (N := 12) hx hb ht in_M hown hK.1 hM.1 0 rfl rfl 1 (by decide) (ht _ q540) (fun _ h9 => h9) rfl d_M_get_69 ?_
          refine lv_iload hx hb d_M_get_72 (lv_at hl 0 rfl) ?_
          refine z_iald hx hb hK (hM.1 2 _ rfl) t rfl (by omega) (by decide) d_M_get_74 ?_
          rw [e2]
          refine lv_iload hx hb d_M_get_75 (lv_at hl 1 rfl) ?_
          refine lv_iconst (v := 2) hx hb d_M_get_77 (by decide) ?_
          refine lv_iadd hx hb d_M_get_78 ?_
          rw [show (((nI (160 * jt + 5 + (cs (prc ch kv)).length)) + 2) : Int32) = nI ((160 * jt + 5 + (cs (prc ch kv)).length) + 2) from nI_add (160 * jt + 5 + (cs (prc ch kv)).length) 2]
          refine z_callR (va_runV (C := "ValueTreesModel") (As := [.int (nI (lt_ tb t)), .int (nI ((160 * jt + 5 + (cs (prc ch kv)).length) + 2))]) (rest := [.int (nI (rt_ tb t)), .int (nI j), .ref (mm 0)]) ⟨hx, hb, hml, hown, hts⟩ (c_M_end l D dT _ mm wd lf rt tc ty F sz Wk wz dg dc sh hM hF tb hO hT 200 (lt_ tb t) k9 ((160 * jt + 5 + (cs (prc ch kv)).length) + 2) (by omega) (by omega) hk9w hfk9 (by omega)) ⟨callB_of 2 hts (gI gd_up gd_c q762) rfl rfl rfl (ht _ q10) (ht _ q759) hd_M_end ⟨Nat.le_of_ble_eq_true rfl, Nat.le_of_ble_eq_true rfl⟩, ht _ q761, ht _ qs43⟩ (z_preV hK (va_recv hK.1 hM.1 (ci := 10) (q0 := 0) rfl rfl)) rfl rfl hl.1 rfl (lv_room (Nat.le_of_ble_eq_true rfl)) d_M_get_79 ⟨Nat.zero_le _, Nat.zero_le _⟩) (fun v23 hv22 => ?_)
          subst hv22
          refine lv_aload_n hx hb d_M_get_82 rfl (lv_at hl 2 rfl) ?_
          refine lv_iload hx hb d_M_get_83 (lv_at hl 0 rfl) ?_
          refine lv_iload hx hb d_M_get_85 (lv_at hl 1 rfl) ?_
          refine z_callR (va_runV (C := "ValueTreesModel") (As := [.int (nI t), .int (nI (160 * jt + 5 + (cs (prc ch kv)).length))]) (rest := [.int (nI ((160 * jt + 5 + (cs (prc ch kv)).length) + 2 + (cs k9).length)), .int (nI (rt_ tb t)), .int (nI j), .ref (mm 0)]) ⟨hx, hb, hml, hown, hts⟩ (c_M_entryEnd l D dT _ mm wd lf rt tc ty F sz Wk wz dg dc sh hM hF tb hO hT t (160 * jt + 5 + (cs (prc ch kv)).length) (.add k9 x9) (by omega) hwd hwe hfe (by omega)) ⟨callB_of 2 hts (gI gd_up gd_c q770) rfl rfl rfl (ht _ q10) (ht _ q767) hd_M_entryEnd ⟨Nat.le_of_ble_eq_true rfl, Nat.le_of_ble_eq_true rfl⟩, ht _ q769, ht _ qs45⟩ (z_preV hK (va_recv hK.1 hM.1 (ci := 10) (q0 := 0) rfl rfl)) rfl rfl hl.1 rfl (lv_room (Nat.le_of_ble_eq_true rfl)) d_M_get_87 ⟨Nat.zero_le _, Nat.zero_le _⟩) (fun v25 hv24 => ?_)
          subst hv24
          rw [show 160 * jt + 5 + (cs (prc ch kv)).length + (eb (.add k9 x9)).length = (160 * jt + 5 + (cs (prc ch kv)).length) + 2 + (cs k9).length + (cs x9).length from (by omega)]
          refine z_callQ (va_runV (C := "ValueTreesModel") (As := [.int (nI j), .int (nI (rt_ tb t)), .int (nI ((160 * jt + 5 + (cs (prc ch kv)).length) + 2 + (cs k9).length)), .int (nI ((160 * jt + 5 + (cs (prc ch kv)).length) + 2 + (cs k9).length + (cs x9).length))]) (rest := []) ⟨hx, hb, hml, hown, hts⟩ (c_M_take l D dT _ mm wd lf rt tc ty F sz Wk wz dg dc sh hM hF hWk j (rt_ tb t) ((160 * jt + 5 + (cs (prc ch kv)).length) + 2 + (cs k9).length) (cs x9) hj hfx9 (by omega) (by omega)) ⟨callB_of 4 hts (gI gd_up gd_c q790) rfl rfl rfl (ht _ q10) (ht _ q787) hd_M_take ⟨Nat.le_of_ble_eq_true rfl, Nat.le_of_ble_eq_true rfl⟩, ht _ q789, ht _ qs48⟩ (z_preV hK (va_recv hK.1 hM.1 (ci := 10) (q0 := 0) rfl rfl)) rfl rfl hl.1 rfl (lv_room (Nat.le_of_ble_eq_true rfl)) d_M_get_90 ⟨Nat.le_refl _, Nat.le_refl _⟩) hS (fun _ h9 => h9) (fun v27 H locs hv26 hz28 hf29 hS => ?_)
          obtain ⟨r9v, er9⟩ : ∃ r9 : Int32, v27 = some (.int r9) := by obtain ⟨_, _, _, _, _, -, ⟨-, e8, -⟩ | ⟨-, e8, -⟩⟩ := hv26 <;> exact ⟨_, e8⟩
          subst er9
          refine W.eq (g2 := F0 m 93 ls [.int r9v]) rfl ?_
          refine lv_goto (tgt := 97) hx hb d_M_get_93 (by decide) ?_
          refine z_iretQ hx hb hr hlocks d_M_get_97 hS (Nat.le_refl _) (Nat.le_refl _) ?_
          have eo : o_get tb RV (nI jt) (nI jk) = some x9 := by unfold o_get; rw [if_pos hatk, rgs_nI hjt, rgs_nI hjk, hVt, hVk]; show (if thr (skp ch kv) kv = true then (fstE (skp ch kv)).bind valOf else none) = _; rw [if_pos hthr, hsk]; rfl
          rw [eo]
          exact kO_done (x := x9) hv26 hO hT hR hj (by omega) hx9w
        · rw [if_neg hthr]
          refine lv_if_eq (tgt := 96) hx hb d_M_get_55 (by decide) (fun _ => ?_) (fun c30 => absurd c30 (by decide))
          refine lv_iconst (v := (-1)) hx hb d_M_get_96 (by decide) ?_
          refine z_iretQ hx hb hr hlocks d_M_get_97 hS (Nat.le_refl _) (Nat.le_refl _) ?_
          have eo : o_get tb RV (nI jt) (nI jk) = none := by unfold o_get; rw [if_pos hatk, rgs_nI hjt, rgs_nI hjk, hVt, hVk]; exact if_neg hthr
          rw [eo]
          exact ⟨rfl, _, _, _, _, _, _, _, _, _, _, _, hM, hO, hT, hR, hWk⟩
      · rw [if_neg hq11] at hv9
        subst hv9
        refine lv_if_ne (tgt := 31) hx hb d_M_get_26 (by decide) (fun c31 => absurd c31 (by decide)) (fun _ => ?_)
        refine lv_iconst (v := (-1)) hx hb d_M_get_29 (by decide) ?_
        refine z_iretQ hx hb hr hlocks d_M_get_30 hS (Nat.le_refl _) (Nat.le_refl _) ?_
        have hw12 : tW (tb t) = 12 := Classical.not_not.mp hq11
        have eo : o_get tb RV (nI jt) (nI jk) = none := by unfold o_get; rw [if_pos hatk, rgs_nI hjt, rgs_nI hjk, hVt, hVk]; exact get_set hw12 hch
        rw [eo]
        exact ⟨rfl, _, _, _, _, _, _, _, _, _, _, _, hM, hO, hT, hR, hWk⟩
    · rw [if_neg hq7] at hv5
      subst hv5
      refine lv_if_eq (tgt := 29) hx hb d_M_get_13 (by decide) (fun _ => ?_) (fun c32 => absurd c32 (by decide))
      refine lv_iconst (v := (-1)) hx hb d_M_get_29 (by decide) ?_
      refine z_iretQ hx hb hr hlocks d_M_get_30 hS (Nat.le_refl _) (Nat.le_refl _) ?_
      have eo : o_get tb RV tree key = none := if_neg hq7
      rw [eo]
      exact ⟨rfl, _, _, _, _, _, _, _, _, _, _, _, hM, hO, hT, hR, hWk⟩
  · rw [if_neg hq3] at hv1
    subst hv1
    refine lv_if_eq (tgt := 29) hx hb d_M_get_4 (by decide) (fun _ => ?_) (fun c33 => absurd c33 (by decide))
    refine lv_iconst (v := (-1)) hx hb d_M_get_29 (by decide) ?_
    refine z_iretQ hx hb hr hlocks d_M_get_30 hS (Nat.le_refl _) (Nat.le_refl _) ?_
    rw [kp_out hq3]
    exact ⟨rfl, _, _, _, _, _, _, _, _, _, _, _, hM, hO, hT, hR, hWk⟩
