abbrev b_V_times : ByteArray := prog_1_method_5_code
abbrev y_V_times : MethodName := ⟨"ValueTrees", "times", "(III)I"⟩
abbrev w_V_times : List Cond := .code y_V_times b_V_times 6 (Option.some .int) :: gt
theorem hd_V_times : (y_V_times).cls ≠ "java/lang/invoke/MethodHandle" ∧ (y_V_times).cls ≠ "java/lang/invoke/VarHandle" ∧ (parseMethodDescriptor (y_V_times).desc).map (fun d => d.parameters.length) = some 3 := by decide +kernel
theorem d_V_times_0 : decode b_V_times 0 = .ok (.aload_n 0, 1) := by decide +kernel
theorem d_V_times_1 : decode b_V_times 1 = .ok (.iload_n 2, 1) := by decide +kernel
theorem d_V_times_2 : decode b_V_times 2 = .ok (.invokevirtual 77, 3) := by decide +kernel
theorem d_V_times_5 : decode b_V_times 5 = .ok (.astore 5, 2) := by decide +kernel
theorem d_V_times_7 : decode b_V_times 7 = .ok (.aload 5, 2) := by decide +kernel
theorem d_V_times_9 : decode b_V_times 9 = .ok (.instanceof 64, 3) := by decide +kernel
theorem d_V_times_12 : decode b_V_times 12 = .ok (.ifCond .eq 21, 3) := by decide +kernel
theorem d_V_times_15 : decode b_V_times 15 = .ok (.aload 5, 2) := by decide +kernel
theorem d_V_times_17 : decode b_V_times 17 = .ok (.checkcast 64, 3) := by decide +kernel
theorem d_V_times_20 : decode b_V_times 20 = .ok (.astore 4, 2) := by decide +kernel
theorem d_V_times_22 : decode b_V_times 22 = .ok (.iload_n 3, 1) := by decide +kernel
theorem d_V_times_23 : decode b_V_times 23 = .ok (.ifCond .lt 10, 3) := by decide +kernel
theorem d_V_times_26 : decode b_V_times 26 = .ok (.iload_n 3, 1) := by decide +kernel
theorem d_V_times_27 : decode b_V_times 27 = .ok (.sipush 1000, 3) := by decide +kernel
theorem d_V_times_30 : decode b_V_times 30 = .ok (.if_icmp .le 5, 3) := by decide +kernel
theorem d_V_times_33 : decode b_V_times 33 = .ok (.iconst (-1), 1) := by decide +kernel
theorem d_V_times_34 : decode b_V_times 34 = .ok (.ireturn, 1) := by decide +kernel
theorem d_V_times_35 : decode b_V_times 35 = .ok (.aload 4, 2) := by decide +kernel
theorem d_V_times_37 : decode b_V_times 37 = .ok (.getfield 81, 3) := by decide +kernel
theorem d_V_times_40 : decode b_V_times 40 = .ok (.ifCond .ne 7, 3) := by decide +kernel
theorem d_V_times_43 : decode b_V_times 43 = .ok (.iconst 0, 1) := by decide +kernel
theorem d_V_times_44 : decode b_V_times 44 = .ok (.goto 10, 3) := by decide +kernel
theorem d_V_times_47 : decode b_V_times 47 = .ok (.aload 4, 2) := by decide +kernel
theorem d_V_times_49 : decode b_V_times 49 = .ok (.getfield 81, 3) := by decide +kernel
theorem d_V_times_52 : decode b_V_times 52 = .ok (.iload_n 3, 1) := by decide +kernel
theorem d_V_times_53 : decode b_V_times 53 = .ok (.iadd, 1) := by decide +kernel
theorem d_V_times_54 : decode b_V_times 54 = .ok (.istore 5, 2) := by decide +kernel
theorem d_V_times_56 : decode b_V_times 56 = .ok (.iload 5, 2) := by decide +kernel
theorem d_V_times_58 : decode b_V_times 58 = .ok (.aload 4, 2) := by decide +kernel
theorem d_V_times_60 : decode b_V_times 60 = .ok (.getfield 84, 3) := by decide +kernel
theorem d_V_times_63 : decode b_V_times 63 = .ok (.iconst 4, 1) := by decide +kernel
theorem d_V_times_64 : decode b_V_times 64 = .ok (.if_icmp .ne 8, 3) := by decide +kernel
theorem d_V_times_67 : decode b_V_times 67 = .ok (.bipush 63, 2) := by decide +kernel
theorem d_V_times_69 : decode b_V_times 69 = .ok (.goto 6, 3) := by decide +kernel
theorem d_V_times_72 : decode b_V_times 72 = .ok (.sipush 1024, 3) := by decide +kernel
theorem d_V_times_75 : decode b_V_times 75 = .ok (.if_icmp .le 5, 3) := by decide +kernel
theorem d_V_times_78 : decode b_V_times 78 = .ok (.iconst (-1), 1) := by decide +kernel
theorem d_V_times_79 : decode b_V_times 79 = .ok (.ireturn, 1) := by decide +kernel
theorem d_V_times_80 : decode b_V_times 80 = .ok (.aload_n 0, 1) := by decide +kernel
theorem d_V_times_81 : decode b_V_times 81 = .ok (.iload_n 1, 1) := by decide +kernel
theorem d_V_times_82 : decode b_V_times 82 = .ok (.new 64, 3) := by decide +kernel
theorem d_V_times_85 : decode b_V_times 85 = .ok (.dup, 1) := by decide +kernel
theorem d_V_times_86 : decode b_V_times 86 = .ok (.aload 4, 2) := by decide +kernel
theorem d_V_times_88 : decode b_V_times 88 = .ok (.getfield 84, 3) := by decide +kernel
theorem d_V_times_91 : decode b_V_times 91 = .ok (.aload 4, 2) := by decide +kernel
theorem d_V_times_93 : decode b_V_times 93 = .ok (.getfield 87, 3) := by decide +kernel
theorem d_V_times_96 : decode b_V_times 96 = .ok (.iload 5, 2) := by decide +kernel
theorem d_V_times_98 : decode b_V_times 98 = .ok (.aload 4, 2) := by decide +kernel
theorem d_V_times_100 : decode b_V_times 100 = .ok (.getfield 91, 3) := by decide +kernel
theorem d_V_times_103 : decode b_V_times 103 = .ok (.iload_n 3, 1) := by decide +kernel
theorem d_V_times_104 : decode b_V_times 104 = .ok (.iload 5, 2) := by decide +kernel
theorem d_V_times_106 : decode b_V_times 106 = .ok (.invokestatic 95, 3) := by decide +kernel
theorem d_V_times_109 : decode b_V_times 109 = .ok (.invokespecial 70, 3) := by decide +kernel
theorem d_V_times_112 : decode b_V_times 112 = .ok (.invokevirtual 73, 3) := by decide +kernel
theorem d_V_times_115 : decode b_V_times 115 = .ok (.ireturn, 1) := by decide +kernel
set_option maxHeartbeats 4000000 in
set_option maxRecDepth 100000 in
theorem p_V_times (l : Launch) (D : va_G) (dT : Nat → ClassId) (H : Heap) (Bq : Nat → Prop) (vv rg li ed : Nat) (tb : Nat → TR) (tc : Nat) (RV : Nat → Option VT) (hC : cI D dT Bq vv rg li ed tb tc RV H) (hV : vOK tb tc RV) (r f n : Int32) : Met l y_V_times w_V_times ({ frames := 3, cells := 2, slots := 69, locals := 66 }) (z_P D dT [.ref vv, .int r, .int f, .int n] H) (z_Q (fun q => q = rg ∨ H.size ≤ q) (fun v H1 => v = some (.int (kp RV r (o_times RV f n)).1) ∧ cI D dT Bq vv rg li ed tb tc (kp RV r (o_times RV f n)).2 H1)) 2 69 (fun q => q = rg ∨ H.size ≤ q) := by
  obtain ⟨⟨hBs, hBr, hBl, hBe, hBv, hrl, hre, hle⟩, hvv, hCR, hCT⟩ := id hC
  have hO := hV.1
  have htc := hO.1
  have htc10 := hO.2.1
  refine Met.ofW (cc := b_V_times) (maxL := 6) (ret := (Option.some .int)) (by decide) rfl ?_
  intro p e s m args below meth c s₁ B hml hv
  obtain ⟨rfl, rfl, hK⟩ := hv
  have hx := B.exec
  have hb := B.bytes
  have hr := B.returns
  have hts := atoms_spec (ws := w_V_times) B.pre
  have ht : ∀ w9 ∈ gt, w9.before [.ref vv, .int r, .int f, .int n].toArray s = true := fun w9 h => hts w9 (List.mem_cons_of_mem _ h)
  have hown : s.vm.findClass "ValueTrees" = some m.cls := findClass_of_methodNamed B.named
  have hlocks := B.notSynchronized
  have hS : va_S (fun q => q = rg ∨ s.heap.size ≤ q) s.heap s.heap [] := va_S.rf
  have hl := lv_entry ([.ref vv, .int r, .int f, .int n]) (n := 6) (Nat.le_of_ble_eq_true rfl)
  rw [lg_entry_eq]
  generalize (lg_sl ([.ref vv, .int r, .int f, .int n]) ++ List.replicate (6 - (lg_sl ([.ref vv, .int r, .int f, .int n])).length) Slot.unset).toArray = ls at hl ⊢
  have hl : lv_has ls 6 [(0, .ref vv), (1, .int r), (2, .int f), (3, .int n)] := hl
  have hN : nU s.heap s.heap := nU.rf
  refine lv_aload_n hx hb d_V_times_0 rfl (lv_at hl 0 rfl) ?_
  refine lv_iload_n hx hb d_V_times_1 rfl (lv_at hl 2 rfl) ?_
  refine z_callR (va_runV (C := "ValueTrees") (As := [.int f]) (rest := []) ⟨hx, hb, hml, hown, hts⟩ (c_V_held l D dT _ Bq vv rg li ed tb tc RV (hC.up hN) hV f) ⟨callB_of 1 hts (gI gd_up gd_c q275) rfl rfl rfl (ht _ q1) (ht _ q272) hd_V_held ⟨Nat.le_of_ble_eq_true rfl, Nat.le_of_ble_eq_true rfl⟩, ht _ q274, ht _ qs7⟩ (z_preV hK (va_recv hK.1 (z_1 (hvv.grew hN.2)) (ci := 0) (q0 := 0) rfl rfl)) rfl rfl hl.1 rfl (lv_room (Nat.le_of_ble_eq_true rfl)) d_V_times_2 ⟨Nat.zero_le _, Nat.zero_le _⟩) (fun v2 hv1 => ?_)
  rcases hv1 with ⟨rfl, hr5⟩ | ⟨a3, v4, rfl, hr5, hq4⟩
  · refine lv_astoreN (lv' := [(5, .null), (0, .ref vv), (1, .int r), (2, .int f), (3, .int n)]) hx hb d_V_times_5 hl (by decide) rfl (fun ls hl => ?_)
    refine lv_aloadN hx hb d_V_times_7 (lv_at hl 0 rfl) ?_
    refine lv_instN hx hb d_V_times_9 ?_
    refine lv_if_eq (tgt := 33) hx hb d_V_times_12 (by decide) (fun _ => ?_) (fun c6 => absurd c6 (by decide))
    refine lv_iconst (v := (-1)) hx hb d_V_times_33 (by decide) ?_
    exact z_iretQ hx hb hr hlocks d_V_times_34 hS (Nat.le_of_ble_eq_true rfl) (Nat.le_of_ble_eq_true rfl) (by rw [show o_times RV f n = none from (by unfold o_times; rw [hr5])]; exact ⟨rfl, hC⟩)
  · obtain ⟨ht4, hw4, hl4⟩ := vOK_get hV hr5
    obtain ⟨hh4, hnb4⟩ := rv_hd hw4 hq4
    obtain ⟨c4, ec4, hc4⟩ := wty_pow hw4
    rw [ec4] at hq4
    cases c4 with
    | num z4 =>
      obtain ⟨d4, oa4, hna4, od4, hnd4⟩ := rv_num.mp hq4
      have hnb4 : nb z4.natAbs ≤ 1024 := nb_lt.mpr hc4.2.2.1
      have htw4 : tW (tb (vty v4)) = vty v4 := (is_word hO ht4 (by have h9 := hc4.2.1; omega)).symm
      refine lv_astore (lv' := [(5, .ref a3), (0, .ref vv), (1, .int r), (2, .int f), (3, .int n)]) hx hb d_V_times_5 hl (by decide) rfl (fun ls hl => ?_)
      refine lv_aload hx hb d_V_times_7 (lv_at hl 0 rfl) ?_
      refine va_instE hx hb hown (ht _ q205) (z_recv hK (oa4.grew hN.2) rfl) d_V_times_9 ?_
      refine lv_if_eq (tgt := 33) hx hb d_V_times_12 (by decide) (fun c7 => absurd c7 (by decide)) (fun _ => ?_)
      refine lv_aload hx hb d_V_times_15 (lv_at hl 0 rfl) ?_
      refine va_castE hx hb hown (ht _ q205) (z_recv hK (oa4.grew hN.2) rfl) d_V_times_17 ?_
      refine lv_astore (lv' := [(4, .ref a3), (5, .ref a3), (0, .ref vv), (1, .int r), (2, .int f), (3, .int n)]) hx hb d_V_times_20 hl (by decide) rfl (fun ls hl => ?_)
      refine lv_iload_n hx hb d_V_times_22 rfl (lv_at hl 5 rfl) ?_
      refine lv_if_lt (tgt := 33) hx hb d_V_times_23 (by decide) (fun c8 => ?_) (fun c8 => ?_)
      · refine lv_iconst (v := (-1)) hx hb d_V_times_33 (by decide) ?_
        exact z_iretQ hx hb hr hlocks d_V_times_34 hS (Nat.le_of_ble_eq_true rfl) (Nat.le_of_ble_eq_true rfl) (by rw [show o_times RV f n = none from (by unfold o_times; rw [hr5, ec4]; dsimp only; rw [if_neg (fun h9 => absurd c8 (Int32.not_lt.mpr h9.1))])]; exact ⟨rfl, hC⟩)
      · refine lv_iload_n hx hb d_V_times_26 rfl (lv_at hl 5 rfl) ?_
        refine lv_sipush (v := 1000) hx hb d_V_times_27 (by decide) ?_
        refine lv_icmp_le (tgt := 35) hx hb d_V_times_30 (by decide) (fun c9 => ?_) (fun c9 => ?_)
        · obtain ⟨nn, hnn, rfl⟩ := nI_of (x := n) c8
          have hn1000 : nn ≤ 1000 := (nI_leI (a := nn) (b := 1000) hnn (by decide)).mp c9
          have hnb9 := hnb4
          refine lv_aload hx hb d_V_times_35 (lv_at hl 0 rfl) ?_
          refine va_get (D := D) (ci := 2) (v := .int (nI (nb z4.natAbs))) (C := "ValueTrees$Whole") (T := T_Whole) (N := 5) hx hb ht in_Whole hown hK.1 (z_1 (oa4.grew hN.2)) 0 rfl rfl 3 (by decide) (ht _ q227) (fun _ h9 => h9) rfl d_V_times_37 ?_
          refine lv_if_ne (tgt := 47) hx hb d_V_times_40 (by decide) (fun c10 => ?_) (fun c10 => ?_)
          · have nc10 : ¬ (nb z4.natAbs) = 0 := fun h9 => c10 ((nI_eq (a := (nb z4.natAbs)) (b := 0) (by omega) (by omega)).mpr h9)
            refine lv_aload hx hb d_V_times_47 (lv_at hl 0 rfl) ?_
            refine va_get (D := D) (ci := 2) (v := .int (nI (nb z4.natAbs))) (C := "ValueTrees$Whole") (T := T_Whole) (N := 5) hx hb ht in_Whole hown hK.1 (z_1 (oa4.grew hN.2)) 0 rfl rfl 3 (by decide) (ht _ q227) (fun _ h9 => h9) rfl d_V_times_49 ?_
            refine lv_iload_n hx hb d_V_times_52 rfl (lv_at hl 5 rfl) ?_
            refine lv_iadd hx hb d_V_times_53 ?_
            rw [show (((nI (nb z4.natAbs)) + (nI nn)) : Int32) = nI ((nb z4.natAbs) + nn) from nI_add (nb z4.natAbs) nn]
            obtain ⟨kb, hkb⟩ : ∃ k, nb (z4.natAbs * 2 ^ nn) = k := ⟨_, rfl⟩
            have hkb0 : kb = nb z4.natAbs + nn := by rw [← hkb]; exact nb_shift (Nat.pos_of_ne_zero (fun h9 => nc10 (by rw [h9]; rfl)))
            rw [← hkb0]
            refine lv_istore (lv' := [(5, .int (nI kb)), (4, .ref a3), (0, .ref vv), (1, .int r), (2, .int f), (3, .int (nI nn))]) hx hb d_V_times_54 hl (by decide) rfl (fun ls hl => ?_)
            refine lv_iload hx hb d_V_times_56 (lv_at hl 0 rfl) ?_
            refine lv_aload hx hb d_V_times_58 (lv_at hl 1 rfl) ?_
            refine va_get (D := D) (ci := 2) (v := .int (nI (vty v4))) (C := "ValueTrees$Whole") (T := T_Whole) (N := 5) hx hb ht in_Whole hown hK.1 (z_1 (oa4.grew hN.2)) 0 rfl rfl 0 (by decide) (ht _ q233) (u_same (ht _ q234)) rfl d_V_times_60 ?_
            refine lv_iconst (v := 4) hx hb d_V_times_63 (by decide) ?_
            refine lv_icmp_ne (tgt := 72) hx hb d_V_times_64 (by decide) (fun c11 => ?_) (fun c11 => ?_)
            · have nc11 : ¬ (vty v4) = 4 := fun h9 => c11 ((nI_eq (a := (vty v4)) (b := 4) (by omega) (by omega)).mpr h9)
              have hfour : ¬ vty v4 = 4 := nc11
              refine lv_sipush (v := 1024) hx hb d_V_times_72 (by decide) ?_
              refine lv_icmp_le (tgt := 80) hx hb d_V_times_75 (by decide) (fun c12 => ?_) (fun c12 => ?_)
              · have nc12 : kb ≤ 1024 := (nI_leI (a := kb) (b := 1024) (by omega) (by omega)).mp c12
                refine lv_aload_n hx hb d_V_times_80 rfl (lv_at hl 2 rfl) ?_
                refine lv_iload_n hx hb d_V_times_81 rfl (lv_at hl 3 rfl) ?_
                have hSp := hS
                refine z_newo (ci := 2) hx hb ht in_Whole ty_Whole tyk_Whole hown (ht _ q205) (ht _ q206) (ht _ q14) hK hS rfl fs_Whole (Nat.le_of_ble_eq_true rfl) (Nat.le_of_ble_eq_true rfl) d_V_times_82 (fun ad13 H hqad13 hzad13 oad13 hoad13 hS => ?_)
                have hgad13 : s.heap.size ≤ ad13 := by rw [hqad13]; exact hSp.1
                have hAad13 : (fun q => q = rg ∨ s.heap.size ≤ q) ad13 := (Or.inr hgad13)
                have hgbad13 := Nat.le_trans hN.1 (Nat.le_of_eq hqad13.symm)
                have hN := hN.grew hzad13 hoad13
                refine lv_dup hx hb d_V_times_85 rfl ?_
                refine lv_aload hx hb d_V_times_86 (lv_at hl 1 rfl) ?_
                refine va_get (D := D) (ci := 2) (v := .int (nI (vty v4))) (C := "ValueTrees$Whole") (T := T_Whole) (N := 5) hx hb ht in_Whole hown hK.1 (z_1 (oa4.grew hN.2)) 0 rfl rfl 0 (by decide) (ht _ q233) (u_same (ht _ q234)) rfl d_V_times_88 ?_
                refine lv_aload hx hb d_V_times_91 (lv_at hl 1 rfl) ?_
                refine va_get (D := D) (ci := 2) (v := .int (if z4 < 0 then 1 else 0)) (C := "ValueTrees$Whole") (T := T_Whole) (N := 5) hx hb ht in_Whole hown hK.1 (z_1 (oa4.grew hN.2)) 0 rfl rfl 2 (by decide) (ht _ q225) (fun _ h9 => h9) rfl d_V_times_93 ?_
                refine lv_iload hx hb d_V_times_96 (lv_at hl 0 rfl) ?_
                refine lv_aload hx hb d_V_times_98 (lv_at hl 1 rfl) ?_
                refine va_get (D := D) (ci := 2) (v := .ref d4) (C := "ValueTrees$Whole") (T := T_Whole) (N := 5) hx hb ht in_Whole hown hK.1 (z_1 (oa4.grew hN.2)) 0 rfl rfl 4 (by decide) (ht _ q229) (fun _ h9 => h9) rfl d_V_times_100 ?_
                refine lv_iload_n hx hb d_V_times_103 rfl (lv_at hl 5 rfl) ?_
                refine lv_iload hx hb d_V_times_104 (lv_at hl 0 rfl) ?_
                refine z_callQ (va_runS (As := [.ref d4, .int (nI nn), .int (nI kb)]) (rest := [.int (nI kb), .int (if z4 < 0 then 1 else 0), .int (nI (vty v4)), .ref ad13, .ref ad13, .int r, .ref vv]) ⟨hx, hb, hml, hown, hts⟩ (c_V_shifted l D dT _ z4.natAbs nn kb d4 (od4.grew hN.2) hn1000 hkb (by omega) hnb9) ⟨callB_of 3 hts (gI gd_up gd_c q278) rfl rfl rfl (ht _ q1) (ht _ q276) hd_V_shifted ⟨Nat.le_of_ble_eq_true rfl, Nat.le_of_ble_eq_true rfl⟩, ht _ q277⟩ (z_preS hK) rfl rfl hl.1 rfl (lv_room (Nat.le_of_ble_eq_true rfl)) d_V_times_106 ⟨(Nat.le_of_ble_eq_true rfl), (Nat.le_of_ble_eq_true rfl)⟩) hS (fun _ h9 => Or.inr (Nat.le_trans hN.1 h9)) (fun v15 H locs hv14 hz16 hf17 hS => ?_)
                obtain ⟨ad18, rfl, hxad18, oad18⟩ := hv14
                have hgad18 : s.heap.size ≤ ad18 := Nat.le_trans hN.1 hxad18
                have nead13ad18 : ad13 ≠ ad18 := Nat.ne_of_lt (Nat.lt_of_lt_of_le oad13.lt hxad18)
                have oad13 := oad13.kept (hf17 _ oad13.lt (Nat.not_le.mpr oad13.lt))
                have hN := hN.call hz16 hf17 (fun x9 hx9 h9 => absurd (Nat.lt_of_lt_of_le hx9 hN.1) (Nat.not_lt.mpr h9))
                refine W.eq (g2 := F0 m 109 ls [.ref ad18, .int (nI kb), .int (if z4 < 0 then 1 else 0), .int (nI (vty v4)), .ref ad13, .ref ad13, .int r, .ref vv]) rfl ?_
                refine z_callQ (va_runI (As := [.int (nI (vty v4)), .int (if z4 < 0 then 1 else 0), .int (nI kb), .ref ad18]) (rest := [.ref ad13, .int r, .ref vv]) ⟨hx, hb, hml, hown, hts⟩ (c_Whole_init l D dT _ ad13 oad13 (nI (vty v4)) (if z4 < 0 then 1 else 0) (nI kb) ad18 (by split <;> rfl) (by split <;> rfl)) ⟨callB_of 4 hts (gI gd_up gd_c q216) rfl rfl rfl (ht _ q14) (ht _ q214) hd_Whole_init ⟨Nat.le_of_ble_eq_true rfl, Nat.le_of_ble_eq_true rfl⟩, rfl, ht _ q215⟩ (z_preS hK) rfl rfl hl.1 rfl (lv_room (Nat.le_of_ble_eq_true rfl)) d_V_times_109 ⟨(Nat.le_of_ble_eq_true rfl), (Nat.le_of_ble_eq_true rfl)⟩) hS (fun q9 h9 => by rw [show q9 = ad13 from h9]; exact hAad13) (fun v20 H locs hv19 hz21 hf22 hS => ?_)
                obtain ⟨rfl, oad13⟩ := hv19
                have oad13 : va_at D cls (ad13, .inr (2, [.int (nI (vty v4)), .int (2 + (nI kb) / 7), .int (if z4 < 0 then 1 else 0), .int (nI kb), .ref ad18])) H := oad13
                have oad18 := oad18.kept (hf22 _ oad18.lt (fun h9 => (Ne.symm nead13ad18) h9))
                have hN := hN.call hz21 hf22 (fun x hx h9 => by have h8 : x = ad13 := h9; omega)
                refine W.eq (g2 := F0 m 112 ls [.ref ad13, .int r, .ref vv]) rfl ?_
                obtain ⟨hs1, hs2⟩ := times_sgn (z := z4) (n := nn)
                have hzi : (if z4 * 2 ^ nn < 0 then (1 : Int32) else 0) = (if z4 < 0 then 1 else 0) := by
                  by_cases h9 : z4 < 0
                  · rw [if_pos h9, if_pos (hs1.mpr h9)]
                  · rw [if_neg h9, if_neg (fun h8 => h9 (hs1.mp h8))]
                have hkl : kb ≤ 1024 := by omega
                have hzl : (z4 * 2 ^ nn).natAbs < 2 ^ 1024 := nb_lt.mp (by rw [hs2, hkb]; exact hkl)
                have hwx : wty tb (.pow (.num (z4 * 2 ^ nn)) (vty v4)) 0 (vty v4) := by
                  have h2 : (0 : Int) < 2 ^ nn := Int.pow_pos (by decide)
                  refine ⟨rfl, rfl, rfl, hc4.2.1, hzl, fun h9 => Int.mul_nonneg (hc4.2.2.2.1 h9) (Int.le_of_lt h2), fun h9 => absurd (htw4.symm.trans h9) hfour⟩
                have hrx : rv D dT Bq H (.pow (.num (z4 * 2 ^ nn)) (vty v4)) ad13 := rv_num.mpr ⟨ad18, by rw [hzi, wl_num (by rw [hs2, hkb]; omega), hs2, hkb]; exact oad13, (fun h9 => absurd (hBs _ h9) (Nat.not_lt.mpr hgad13)), by rw [hs2, hkb]; exact oad18, (fun h9 => absurd (hBs _ h9) (Nat.not_lt.mpr hgad18))⟩
                refine z_callQ (va_runV (C := "ValueTrees") (As := [.int r, .ref ad13]) (rest := []) ⟨hx, hb, hml, hown, hts⟩ (c_V_keep_r l D dT _ Bq vv rg li ed tb tc RV (hC.up hN) hV r (.pow (.num (z4 * 2 ^ nn)) (vty v4)) (vty v4) ad13 hwx hrx (by rw [l_num, nser_len, hs2, hkb]; omega)) ⟨callB_of 2 hts (gI gd_up gd_c q264) rfl rfl rfl (ht _ q1) (ht _ q261) hd_V_keep ⟨Nat.le_of_ble_eq_true rfl, Nat.le_of_ble_eq_true rfl⟩, ht _ q263, ht _ qs6⟩ (z_preV hK (va_recv hK.1 (z_1 (hvv.grew hN.2)) (ci := 0) (q0 := 0) rfl rfl)) rfl rfl hl.1 rfl (lv_room (Nat.le_of_ble_eq_true rfl)) d_V_times_112 ⟨(Nat.le_of_ble_eq_true rfl), (Nat.le_of_ble_eq_true rfl)⟩) hS (fun _ h9 => Or.inl h9) (fun v24 H locs hv23 hz25 hf26 hS => ?_)
                obtain ⟨rfl, hC⟩ := hv23
                refine W.eq (g2 := F0 m 115 ls [.int ((kp RV r (some (.pow (.num (z4 * 2 ^ nn)) (vty v4)))).1)]) rfl ?_
                exact z_iretQ hx hb hr hlocks d_V_times_115 hS (Nat.le_of_ble_eq_true rfl) (Nat.le_of_ble_eq_true rfl) (by rw [show o_times RV f (nI nn) = some (.pow (.num (z4 * 2 ^ nn)) (vty v4)) from (by unfold o_times; rw [hr5, ec4]; dsimp only; rw [nI_clamp (by omega), if_pos ⟨nI_pos' (by omega), (nI_leI (a := nn) (b := 1000) (by omega) (by decide)).mpr hn1000, by rw [if_neg hfour]; omega⟩]; try rfl)]; exact ⟨rfl, hC⟩)
              · have nc12 : ¬ kb ≤ 1024 := fun h9 => c12 ((nI_leI (a := kb) (b := 1024) (by omega) (by omega)).mpr h9)
                refine lv_iconst (v := (-1)) hx hb d_V_times_78 (by decide) ?_
                exact z_iretQ hx hb hr hlocks d_V_times_79 hS (Nat.le_of_ble_eq_true rfl) (Nat.le_of_ble_eq_true rfl) (by rw [show o_times RV f (nI nn) = none from (by unfold o_times; rw [hr5, ec4]; dsimp only; rw [nI_clamp (by omega), if_neg (fun h9 => by have h8 := h9.2.2; rw [if_neg hfour] at h8; have h7 : nb z4.natAbs = 0 → kb = 0 := (fun h6 => by rw [← hkb, nb_0 h6, Nat.zero_mul]; rfl); omega)])]; exact ⟨rfl, hC⟩)
            · have nc11 : (vty v4) = 4 := (nI_eq (a := (vty v4)) (b := 4) (by omega) (by omega)).mp c11
              have hfour : vty v4 = 4 := nc11
              refine lv_bipush (v := 63) hx hb d_V_times_67 (by decide) ?_
              refine lv_goto (tgt := 75) hx hb d_V_times_69 (by decide) ?_
              refine lv_icmp_le (tgt := 80) hx hb d_V_times_75 (by decide) (fun c27 => ?_) (fun c27 => ?_)
              · have nc27 : kb ≤ 63 := (nI_leI (a := kb) (b := 63) (by omega) (by omega)).mp c27
                refine lv_aload_n hx hb d_V_times_80 rfl (lv_at hl 2 rfl) ?_
                refine lv_iload_n hx hb d_V_times_81 rfl (lv_at hl 3 rfl) ?_
                have hSp := hS
                refine z_newo (ci := 2) hx hb ht in_Whole ty_Whole tyk_Whole hown (ht _ q205) (ht _ q206) (ht _ q14) hK hS rfl fs_Whole (Nat.le_of_ble_eq_true rfl) (Nat.le_of_ble_eq_true rfl) d_V_times_82 (fun ad28 H hqad28 hzad28 oad28 hoad28 hS => ?_)
                have hgad28 : s.heap.size ≤ ad28 := by rw [hqad28]; exact hSp.1
                have hAad28 : (fun q => q = rg ∨ s.heap.size ≤ q) ad28 := (Or.inr hgad28)
                have hgbad28 := Nat.le_trans hN.1 (Nat.le_of_eq hqad28.symm)
                have hN := hN.grew hzad28 hoad28
                refine lv_dup hx hb d_V_times_85 rfl ?_
                refine lv_aload hx hb d_V_times_86 (lv_at hl 1 rfl) ?_
                refine va_get (D := D) (ci := 2) (v := .int (nI (vty v4))) (C := "ValueTrees$Whole") (T := T_Whole) (N := 5) hx hb ht in_Whole hown hK.1 (z_1 (oa4.grew hN.2)) 0 rfl rfl 0 (by decide) (ht _ q233) (u_same (ht _ q234)) rfl d_V_times_88 ?_
                refine lv_aload hx hb d_V_times_91 (lv_at hl 1 rfl) ?_
                refine va_get (D := D) (ci := 2) (v := .int (if z4 < 0 then 1 else 0)) (C := "ValueTrees$Whole") (T := T_Whole) (N := 5) hx hb ht in_Whole hown hK.1 (z_1 (oa4.grew hN.2)) 0 rfl rfl 2 (by decide) (ht _ q225) (fun _ h9 => h9) rfl d_V_times_93 ?_
                refine lv_iload hx hb d_V_times_96 (lv_at hl 0 rfl) ?_
                refine lv_aload hx hb d_V_times_98 (lv_at hl 1 rfl) ?_
                refine va_get (D := D) (ci := 2) (v := .ref d4) (C := "ValueTrees$Whole") (T := T_Whole) (N := 5) hx hb ht in_Whole hown hK.1 (z_1 (oa4.grew hN.2)) 0 rfl rfl 4 (by decide) (ht _ q229) (fun _ h9 => h9) rfl d_V_times_100 ?_
                refine lv_iload_n hx hb d_V_times_103 rfl (lv_at hl 5 rfl) ?_
                refine lv_iload hx hb d_V_times_104 (lv_at hl 0 rfl) ?_
                refine z_callQ (va_runS (As := [.ref d4, .int (nI nn), .int (nI kb)]) (rest := [.int (nI kb), .int (if z4 < 0 then 1 else 0), .int (nI (vty v4)), .ref ad28, .ref ad28, .int r, .ref vv]) ⟨hx, hb, hml, hown, hts⟩ (c_V_shifted l D dT _ z4.natAbs nn kb d4 (od4.grew hN.2) hn1000 hkb (by omega) hnb9) ⟨callB_of 3 hts (gI gd_up gd_c q278) rfl rfl rfl (ht _ q1) (ht _ q276) hd_V_shifted ⟨Nat.le_of_ble_eq_true rfl, Nat.le_of_ble_eq_true rfl⟩, ht _ q277⟩ (z_preS hK) rfl rfl hl.1 rfl (lv_room (Nat.le_of_ble_eq_true rfl)) d_V_times_106 ⟨(Nat.le_of_ble_eq_true rfl), (Nat.le_of_ble_eq_true rfl)⟩) hS (fun _ h9 => Or.inr (Nat.le_trans hN.1 h9)) (fun v30 H locs hv29 hz31 hf32 hS => ?_)
                obtain ⟨ad33, rfl, hxad33, oad33⟩ := hv29
                have hgad33 : s.heap.size ≤ ad33 := Nat.le_trans hN.1 hxad33
                have nead28ad33 : ad28 ≠ ad33 := Nat.ne_of_lt (Nat.lt_of_lt_of_le oad28.lt hxad33)
                have oad28 := oad28.kept (hf32 _ oad28.lt (Nat.not_le.mpr oad28.lt))
                have hN := hN.call hz31 hf32 (fun x9 hx9 h9 => absurd (Nat.lt_of_lt_of_le hx9 hN.1) (Nat.not_lt.mpr h9))
                refine W.eq (g2 := F0 m 109 ls [.ref ad33, .int (nI kb), .int (if z4 < 0 then 1 else 0), .int (nI (vty v4)), .ref ad28, .ref ad28, .int r, .ref vv]) rfl ?_
                refine z_callQ (va_runI (As := [.int (nI (vty v4)), .int (if z4 < 0 then 1 else 0), .int (nI kb), .ref ad33]) (rest := [.ref ad28, .int r, .ref vv]) ⟨hx, hb, hml, hown, hts⟩ (c_Whole_init l D dT _ ad28 oad28 (nI (vty v4)) (if z4 < 0 then 1 else 0) (nI kb) ad33 (by split <;> rfl) (by split <;> rfl)) ⟨callB_of 4 hts (gI gd_up gd_c q216) rfl rfl rfl (ht _ q14) (ht _ q214) hd_Whole_init ⟨Nat.le_of_ble_eq_true rfl, Nat.le_of_ble_eq_true rfl⟩, rfl, ht _ q215⟩ (z_preS hK) rfl rfl hl.1 rfl (lv_room (Nat.le_of_ble_eq_true rfl)) d_V_times_109 ⟨(Nat.le_of_ble_eq_true rfl), (Nat.le_of_ble_eq_true rfl)⟩) hS (fun q9 h9 => by rw [show q9 = ad28 from h9]; exact hAad28) (fun v35 H locs hv34 hz36 hf37 hS => ?_)
                obtain ⟨rfl, oad28⟩ := hv34
                have oad28 : va_at D cls (ad28, .inr (2, [.int (nI (vty v4)), .int (2 + (nI kb) / 7), .int (if z4 < 0 then 1 else 0), .int (nI kb), .ref ad33])) H := oad28
                have oad33 := oad33.kept (hf37 _ oad33.lt (fun h9 => (Ne.symm nead28ad33) h9))
                have hN := hN.call hz36 hf37 (fun x hx h9 => by have h8 : x = ad28 := h9; omega)
                refine W.eq (g2 := F0 m 112 ls [.ref ad28, .int r, .ref vv]) rfl ?_
                obtain ⟨hs1, hs2⟩ := times_sgn (z := z4) (n := nn)
                have hzi : (if z4 * 2 ^ nn < 0 then (1 : Int32) else 0) = (if z4 < 0 then 1 else 0) := by
                  by_cases h9 : z4 < 0
                  · rw [if_pos h9, if_pos (hs1.mpr h9)]
                  · rw [if_neg h9, if_neg (fun h8 => h9 (hs1.mp h8))]
                have hkl : kb ≤ 63 := by omega
                have hzl : (z4 * 2 ^ nn).natAbs < 2 ^ 63 := nb_lt.mp (by rw [hs2, hkb]; exact hkl)
                have hwx : wty tb (.pow (.num (z4 * 2 ^ nn)) (vty v4)) 0 (vty v4) := by
                  have h2 : (0 : Int) < 2 ^ nn := Int.pow_pos (by decide)
                  refine ⟨rfl, rfl, rfl, hc4.2.1, Nat.lt_trans hzl (Nat.pow_lt_pow_right (by decide) (by decide)), fun h9 => Int.mul_nonneg (hc4.2.2.2.1 h9) (Int.le_of_lt h2), fun h9 => hzl⟩
                have hrx : rv D dT Bq H (.pow (.num (z4 * 2 ^ nn)) (vty v4)) ad28 := rv_num.mpr ⟨ad33, by rw [hzi, wl_num (by rw [hs2, hkb]; omega), hs2, hkb]; exact oad28, (fun h9 => absurd (hBs _ h9) (Nat.not_lt.mpr hgad28)), by rw [hs2, hkb]; exact oad33, (fun h9 => absurd (hBs _ h9) (Nat.not_lt.mpr hgad33))⟩
                refine z_callQ (va_runV (C := "ValueTrees") (As := [.int r, .ref ad28]) (rest := []) ⟨hx, hb, hml, hown, hts⟩ (c_V_keep_r l D dT _ Bq vv rg li ed tb tc RV (hC.up hN) hV r (.pow (.num (z4 * 2 ^ nn)) (vty v4)) (vty v4) ad28 hwx hrx (by rw [l_num, nser_len, hs2, hkb]; omega)) ⟨callB_of 2 hts (gI gd_up gd_c q264) rfl rfl rfl (ht _ q1) (ht _ q261) hd_V_keep ⟨Nat.le_of_ble_eq_true rfl, Nat.le_of_ble_eq_true rfl⟩, ht _ q263, ht _ qs6⟩ (z_preV hK (va_recv hK.1 (z_1 (hvv.grew hN.2)) (ci := 0) (q0 := 0) rfl rfl)) rfl rfl hl.1 rfl (lv_room (Nat.le_of_ble_eq_true rfl)) d_V_times_112 ⟨(Nat.le_of_ble_eq_true rfl), (Nat.le_of_ble_eq_true rfl)⟩) hS (fun _ h9 => Or.inl h9) (fun v39 H locs hv38 hz40 hf41 hS => ?_)
                obtain ⟨rfl, hC⟩ := hv38
                refine W.eq (g2 := F0 m 115 ls [.int ((kp RV r (some (.pow (.num (z4 * 2 ^ nn)) (vty v4)))).1)]) rfl ?_
                exact z_iretQ hx hb hr hlocks d_V_times_115 hS (Nat.le_of_ble_eq_true rfl) (Nat.le_of_ble_eq_true rfl) (by rw [show o_times RV f (nI nn) = some (.pow (.num (z4 * 2 ^ nn)) (vty v4)) from (by unfold o_times; rw [hr5, ec4]; dsimp only; rw [nI_clamp (by omega), if_pos ⟨nI_pos' (by omega), (nI_leI (a := nn) (b := 1000) (by omega) (by decide)).mpr hn1000, by rw [if_pos hfour]; omega⟩]; try rfl)]; exact ⟨rfl, hC⟩)
              · have nc27 : ¬ kb ≤ 63 := fun h9 => c27 ((nI_leI (a := kb) (b := 63) (by omega) (by omega)).mpr h9)
                refine lv_iconst (v := (-1)) hx hb d_V_times_78 (by decide) ?_
                exact z_iretQ hx hb hr hlocks d_V_times_79 hS (Nat.le_of_ble_eq_true rfl) (Nat.le_of_ble_eq_true rfl) (by rw [show o_times RV f (nI nn) = none from (by unfold o_times; rw [hr5, ec4]; dsimp only; rw [nI_clamp (by omega), if_neg (fun h9 => by have h8 := h9.2.2; rw [if_pos hfour] at h8; have h7 : nb z4.natAbs = 0 → kb = 0 := (fun h6 => by rw [← hkb, nb_0 h6, Nat.zero_mul]; rfl); omega)])]; exact ⟨rfl, hC⟩)
          · have nc10 : (nb z4.natAbs) = 0 := (nI_eq (a := (nb z4.natAbs)) (b := 0) (by omega) (by omega)).mp c10
            refine lv_iconst (v := 0) hx hb d_V_times_43 (by decide) ?_
            refine lv_goto (tgt := 54) hx hb d_V_times_44 (by decide) ?_
            have hN0 : z4.natAbs = 0 := nb_0 nc10
            obtain ⟨kb, hkb⟩ : ∃ k, nb (z4.natAbs * 2 ^ nn) = k := ⟨_, rfl⟩
            have hkb0 : kb = 0 := by rw [← hkb, hN0, Nat.zero_mul]; rfl
            rw [show (0 : Int32) = nI kb by rw [hkb0]; rfl]
            refine lv_istore (lv' := [(5, .int (nI kb)), (4, .ref a3), (0, .ref vv), (1, .int r), (2, .int f), (3, .int (nI nn))]) hx hb d_V_times_54 hl (by decide) rfl (fun ls hl => ?_)
            refine lv_iload hx hb d_V_times_56 (lv_at hl 0 rfl) ?_
            refine lv_aload hx hb d_V_times_58 (lv_at hl 1 rfl) ?_
            refine va_get (D := D) (ci := 2) (v := .int (nI (vty v4))) (C := "ValueTrees$Whole") (T := T_Whole) (N := 5) hx hb ht in_Whole hown hK.1 (z_1 (oa4.grew hN.2)) 0 rfl rfl 0 (by decide) (ht _ q233) (u_same (ht _ q234)) rfl d_V_times_60 ?_
            refine lv_iconst (v := 4) hx hb d_V_times_63 (by decide) ?_
            refine lv_icmp_ne (tgt := 72) hx hb d_V_times_64 (by decide) (fun c42 => ?_) (fun c42 => ?_)
            · have nc42 : ¬ (vty v4) = 4 := fun h9 => c42 ((nI_eq (a := (vty v4)) (b := 4) (by omega) (by omega)).mpr h9)
              have hfour : ¬ vty v4 = 4 := nc42
              refine lv_sipush (v := 1024) hx hb d_V_times_72 (by decide) ?_
              refine lv_icmp_le (tgt := 80) hx hb d_V_times_75 (by decide) (fun c43 => ?_) (fun c43 => ?_)
              · have nc43 : kb ≤ 1024 := (nI_leI (a := kb) (b := 1024) (by omega) (by omega)).mp c43
                refine lv_aload_n hx hb d_V_times_80 rfl (lv_at hl 2 rfl) ?_
                refine lv_iload_n hx hb d_V_times_81 rfl (lv_at hl 3 rfl) ?_
                have hSp := hS
                refine z_newo (ci := 2) hx hb ht in_Whole ty_Whole tyk_Whole hown (ht _ q205) (ht _ q206) (ht _ q14) hK hS rfl fs_Whole (Nat.le_of_ble_eq_true rfl) (Nat.le_of_ble_eq_true rfl) d_V_times_82 (fun ad44 H hqad44 hzad44 oad44 hoad44 hS => ?_)
                have hgad44 : s.heap.size ≤ ad44 := by rw [hqad44]; exact hSp.1
                have hAad44 : (fun q => q = rg ∨ s.heap.size ≤ q) ad44 := (Or.inr hgad44)
                have hgbad44 := Nat.le_trans hN.1 (Nat.le_of_eq hqad44.symm)
                have hN := hN.grew hzad44 hoad44
                refine lv_dup hx hb d_V_times_85 rfl ?_
                refine lv_aload hx hb d_V_times_86 (lv_at hl 1 rfl) ?_
                refine va_get (D := D) (ci := 2) (v := .int (nI (vty v4))) (C := "ValueTrees$Whole") (T := T_Whole) (N := 5) hx hb ht in_Whole hown hK.1 (z_1 (oa4.grew hN.2)) 0 rfl rfl 0 (by decide) (ht _ q233) (u_same (ht _ q234)) rfl d_V_times_88 ?_
                refine lv_aload hx hb d_V_times_91 (lv_at hl 1 rfl) ?_
                refine va_get (D := D) (ci := 2) (v := .int (if z4 < 0 then 1 else 0)) (C := "ValueTrees$Whole") (T := T_Whole) (N := 5) hx hb ht in_Whole hown hK.1 (z_1 (oa4.grew hN.2)) 0 rfl rfl 2 (by decide) (ht _ q225) (fun _ h9 => h9) rfl d_V_times_93 ?_
                refine lv_iload hx hb d_V_times_96 (lv_at hl 0 rfl) ?_
                refine lv_aload hx hb d_V_times_98 (lv_at hl 1 rfl) ?_
                refine va_get (D := D) (ci := 2) (v := .ref d4) (C := "ValueTrees$Whole") (T := T_Whole) (N := 5) hx hb ht in_Whole hown hK.1 (z_1 (oa4.grew hN.2)) 0 rfl rfl 4 (by decide) (ht _ q229) (fun _ h9 => h9) rfl d_V_times_100 ?_
                refine lv_iload_n hx hb d_V_times_103 rfl (lv_at hl 5 rfl) ?_
                refine lv_iload hx hb d_V_times_104 (lv_at hl 0 rfl) ?_
                refine z_callQ (va_runS (As := [.ref d4, .int (nI nn), .int (nI kb)]) (rest := [.int (nI kb), .int (if z4 < 0 then 1 else 0), .int (nI (vty v4)), .ref ad44, .ref ad44, .int r, .ref vv]) ⟨hx, hb, hml, hown, hts⟩ (c_V_shifted l D dT _ z4.natAbs nn kb d4 (od4.grew hN.2) hn1000 hkb (by omega) hnb9) ⟨callB_of 3 hts (gI gd_up gd_c q278) rfl rfl rfl (ht _ q1) (ht _ q276) hd_V_shifted ⟨Nat.le_of_ble_eq_true rfl, Nat.le_of_ble_eq_true rfl⟩, ht _ q277⟩ (z_preS hK) rfl rfl hl.1 rfl (lv_room (Nat.le_of_ble_eq_true rfl)) d_V_times_106 ⟨(Nat.le_of_ble_eq_true rfl), (Nat.le_of_ble_eq_true rfl)⟩) hS (fun _ h9 => Or.inr (Nat.le_trans hN.1 h9)) (fun v46 H locs hv45 hz47 hf48 hS => ?_)
                obtain ⟨ad49, rfl, hxad49, oad49⟩ := hv45
                have hgad49 : s.heap.size ≤ ad49 := Nat.le_trans hN.1 hxad49
                have nead44ad49 : ad44 ≠ ad49 := Nat.ne_of_lt (Nat.lt_of_lt_of_le oad44.lt hxad49)
                have oad44 := oad44.kept (hf48 _ oad44.lt (Nat.not_le.mpr oad44.lt))
                have hN := hN.call hz47 hf48 (fun x9 hx9 h9 => absurd (Nat.lt_of_lt_of_le hx9 hN.1) (Nat.not_lt.mpr h9))
                refine W.eq (g2 := F0 m 109 ls [.ref ad49, .int (nI kb), .int (if z4 < 0 then 1 else 0), .int (nI (vty v4)), .ref ad44, .ref ad44, .int r, .ref vv]) rfl ?_
                refine z_callQ (va_runI (As := [.int (nI (vty v4)), .int (if z4 < 0 then 1 else 0), .int (nI kb), .ref ad49]) (rest := [.ref ad44, .int r, .ref vv]) ⟨hx, hb, hml, hown, hts⟩ (c_Whole_init l D dT _ ad44 oad44 (nI (vty v4)) (if z4 < 0 then 1 else 0) (nI kb) ad49 (by split <;> rfl) (by split <;> rfl)) ⟨callB_of 4 hts (gI gd_up gd_c q216) rfl rfl rfl (ht _ q14) (ht _ q214) hd_Whole_init ⟨Nat.le_of_ble_eq_true rfl, Nat.le_of_ble_eq_true rfl⟩, rfl, ht _ q215⟩ (z_preS hK) rfl rfl hl.1 rfl (lv_room (Nat.le_of_ble_eq_true rfl)) d_V_times_109 ⟨(Nat.le_of_ble_eq_true rfl), (Nat.le_of_ble_eq_true rfl)⟩) hS (fun q9 h9 => by rw [show q9 = ad44 from h9]; exact hAad44) (fun v51 H locs hv50 hz52 hf53 hS => ?_)
                obtain ⟨rfl, oad44⟩ := hv50
                have oad44 : va_at D cls (ad44, .inr (2, [.int (nI (vty v4)), .int (2 + (nI kb) / 7), .int (if z4 < 0 then 1 else 0), .int (nI kb), .ref ad49])) H := oad44
                have oad49 := oad49.kept (hf53 _ oad49.lt (fun h9 => (Ne.symm nead44ad49) h9))
                have hN := hN.call hz52 hf53 (fun x hx h9 => by have h8 : x = ad44 := h9; omega)
                refine W.eq (g2 := F0 m 112 ls [.ref ad44, .int r, .ref vv]) rfl ?_
                obtain ⟨hs1, hs2⟩ := times_sgn (z := z4) (n := nn)
                have hzi : (if z4 * 2 ^ nn < 0 then (1 : Int32) else 0) = (if z4 < 0 then 1 else 0) := by
                  by_cases h9 : z4 < 0
                  · rw [if_pos h9, if_pos (hs1.mpr h9)]
                  · rw [if_neg h9, if_neg (fun h8 => h9 (hs1.mp h8))]
                have hkl : kb ≤ 1024 := by omega
                have hzl : (z4 * 2 ^ nn).natAbs < 2 ^ 1024 := nb_lt.mp (by rw [hs2, hkb]; exact hkl)
                have hwx : wty tb (.pow (.num (z4 * 2 ^ nn)) (vty v4)) 0 (vty v4) := by
                  have h2 : (0 : Int) < 2 ^ nn := Int.pow_pos (by decide)
                  refine ⟨rfl, rfl, rfl, hc4.2.1, hzl, fun h9 => Int.mul_nonneg (hc4.2.2.2.1 h9) (Int.le_of_lt h2), fun h9 => absurd (htw4.symm.trans h9) hfour⟩
                have hrx : rv D dT Bq H (.pow (.num (z4 * 2 ^ nn)) (vty v4)) ad44 := rv_num.mpr ⟨ad49, by rw [hzi, wl_num (by rw [hs2, hkb]; omega), hs2, hkb]; exact oad44, (fun h9 => absurd (hBs _ h9) (Nat.not_lt.mpr hgad44)), by rw [hs2, hkb]; exact oad49, (fun h9 => absurd (hBs _ h9) (Nat.not_lt.mpr hgad49))⟩
                refine z_callQ (va_runV (C := "ValueTrees") (As := [.int r, .ref ad44]) (rest := []) ⟨hx, hb, hml, hown, hts⟩ (c_V_keep_r l D dT _ Bq vv rg li ed tb tc RV (hC.up hN) hV r (.pow (.num (z4 * 2 ^ nn)) (vty v4)) (vty v4) ad44 hwx hrx (by rw [l_num, nser_len, hs2, hkb]; omega)) ⟨callB_of 2 hts (gI gd_up gd_c q264) rfl rfl rfl (ht _ q1) (ht _ q261) hd_V_keep ⟨Nat.le_of_ble_eq_true rfl, Nat.le_of_ble_eq_true rfl⟩, ht _ q263, ht _ qs6⟩ (z_preV hK (va_recv hK.1 (z_1 (hvv.grew hN.2)) (ci := 0) (q0 := 0) rfl rfl)) rfl rfl hl.1 rfl (lv_room (Nat.le_of_ble_eq_true rfl)) d_V_times_112 ⟨(Nat.le_of_ble_eq_true rfl), (Nat.le_of_ble_eq_true rfl)⟩) hS (fun _ h9 => Or.inl h9) (fun v55 H locs hv54 hz56 hf57 hS => ?_)
                obtain ⟨rfl, hC⟩ := hv54
                refine W.eq (g2 := F0 m 115 ls [.int ((kp RV r (some (.pow (.num (z4 * 2 ^ nn)) (vty v4)))).1)]) rfl ?_
                exact z_iretQ hx hb hr hlocks d_V_times_115 hS (Nat.le_of_ble_eq_true rfl) (Nat.le_of_ble_eq_true rfl) (by rw [show o_times RV f (nI nn) = some (.pow (.num (z4 * 2 ^ nn)) (vty v4)) from (by unfold o_times; rw [hr5, ec4]; dsimp only; rw [nI_clamp (by omega), if_pos ⟨nI_pos' (by omega), (nI_leI (a := nn) (b := 1000) (by omega) (by decide)).mpr hn1000, by rw [if_neg hfour]; omega⟩]; try rfl)]; exact ⟨rfl, hC⟩)
              · have nc43 : ¬ kb ≤ 1024 := fun h9 => c43 ((nI_leI (a := kb) (b := 1024) (by omega) (by omega)).mpr h9)
                refine lv_iconst (v := (-1)) hx hb d_V_times_78 (by decide) ?_
                exact z_iretQ hx hb hr hlocks d_V_times_79 hS (Nat.le_of_ble_eq_true rfl) (Nat.le_of_ble_eq_true rfl) (by rw [show o_times RV f (nI nn) = none from (by unfold o_times; rw [hr5, ec4]; dsimp only; rw [nI_clamp (by omega), if_neg (fun h9 => by have h8 := h9.2.2; rw [if_neg hfour] at h8; have h7 : nb z4.natAbs = 0 → kb = 0 := (fun h6 => by rw [← hkb, nb_0 h6, Nat.zero_mul]; rfl); omega)])]; exact ⟨rfl, hC⟩)
            · have nc42 : (vty v4) = 4 := (nI_eq (a := (vty v4)) (b := 4) (by omega) (by omega)).mp c42
              have hfour : vty v4 = 4 := nc42
              refine lv_bipush (v := 63) hx hb d_V_times_67 (by decide) ?_
              refine lv_goto (tgt := 75) hx hb d_V_times_69 (by decide) ?_
              refine lv_icmp_le (tgt := 80) hx hb d_V_times_75 (by decide) (fun c58 => ?_) (fun c58 => ?_)
              · have nc58 : kb ≤ 63 := (nI_leI (a := kb) (b := 63) (by omega) (by omega)).mp c58
                refine lv_aload_n hx hb d_V_times_80 rfl (lv_at hl 2 rfl) ?_
                refine lv_iload_n hx hb d_V_times_81 rfl (lv_at hl 3 rfl) ?_
                have hSp := hS
                refine z_newo (ci := 2) hx hb ht in_Whole ty_Whole tyk_Whole hown (ht _ q205) (ht _ q206) (ht _ q14) hK hS rfl fs_Whole (Nat.le_of_ble_eq_true rfl) (Nat.le_of_ble_eq_true rfl) d_V_times_82 (fun ad59 H hqad59 hzad59 oad59 hoad59 hS => ?_)
                have hgad59 : s.heap.size ≤ ad59 := by rw [hqad59]; exact hSp.1
                have hAad59 : (fun q => q = rg ∨ s.heap.size ≤ q) ad59 := (Or.inr hgad59)
                have hgbad59 := Nat.le_trans hN.1 (Nat.le_of_eq hqad59.symm)
                have hN := hN.grew hzad59 hoad59
                refine lv_dup hx hb d_V_times_85 rfl ?_
                refine lv_aload hx hb d_V_times_86 (lv_at hl 1 rfl) ?_
                refine va_get (D := D) (ci := 2) (v := .int (nI (vty v4))) (C := "ValueTrees$Whole") (T := T_Whole) (N := 5) hx hb ht in_Whole hown hK.1 (z_1 (oa4.grew hN.2)) 0 rfl rfl 0 (by decide) (ht _ q233) (u_same (ht _ q234)) rfl d_V_times_88 ?_
                refine lv_aload hx hb d_V_times_91 (lv_at hl 1 rfl) ?_
                refine va_get (D := D) (ci := 2) (v := .int (if z4 < 0 then 1 else 0)) (C := "ValueTrees$Whole") (T := T_Whole) (N := 5) hx hb ht in_Whole hown hK.1 (z_1 (oa4.grew hN.2)) 0 rfl rfl 2 (by decide) (ht _ q225) (fun _ h9 => h9) rfl d_V_times_93 ?_
                refine lv_iload hx hb d_V_times_96 (lv_at hl 0 rfl) ?_
                refine lv_aload hx hb d_V_times_98 (lv_at hl 1 rfl) ?_
                refine va_get (D := D) (ci := 2) (v := .ref d4) (C := "ValueTrees$Whole") (T := T_Whole) (N := 5) hx hb ht in_Whole hown hK.1 (z_1 (oa4.grew hN.2)) 0 rfl rfl 4 (by decide) (ht _ q229) (fun _ h9 => h9) rfl d_V_times_100 ?_
                refine lv_iload_n hx hb d_V_times_103 rfl (lv_at hl 5 rfl) ?_
                refine lv_iload hx hb d_V_times_104 (lv_at hl 0 rfl) ?_
                refine z_callQ (va_runS (As := [.ref d4, .int (nI nn), .int (nI kb)]) (rest := [.int (nI kb), .int (if z4 < 0 then 1 else 0), .int (nI (vty v4)), .ref ad59, .ref ad59, .int r, .ref vv]) ⟨hx, hb, hml, hown, hts⟩ (c_V_shifted l D dT _ z4.natAbs nn kb d4 (od4.grew hN.2) hn1000 hkb (by omega) hnb9) ⟨callB_of 3 hts (gI gd_up gd_c q278) rfl rfl rfl (ht _ q1) (ht _ q276) hd_V_shifted ⟨Nat.le_of_ble_eq_true rfl, Nat.le_of_ble_eq_true rfl⟩, ht _ q277⟩ (z_preS hK) rfl rfl hl.1 rfl (lv_room (Nat.le_of_ble_eq_true rfl)) d_V_times_106 ⟨(Nat.le_of_ble_eq_true rfl), (Nat.le_of_ble_eq_true rfl)⟩) hS (fun _ h9 => Or.inr (Nat.le_trans hN.1 h9)) (fun v61 H locs hv60 hz62 hf63 hS => ?_)
                obtain ⟨ad64, rfl, hxad64, oad64⟩ := hv60
                have hgad64 : s.heap.size ≤ ad64 := Nat.le_trans hN.1 hxad64
                have nead59ad64 : ad59 ≠ ad64 := Nat.ne_of_lt (Nat.lt_of_lt_of_le oad59.lt hxad64)
                have oad59 := oad59.kept (hf63 _ oad59.lt (Nat.not_le.mpr oad59.lt))
                have hN := hN.call hz62 hf63 (fun x9 hx9 h9 => absurd (Nat.lt_of_lt_of_le hx9 hN.1) (Nat.not_lt.mpr h9))
                refine W.eq (g2 := F0 m 109 ls [.ref ad64, .int (nI kb), .int (if z4 < 0 then 1 else 0), .int (nI (vty v4)), .ref ad59, .ref ad59, .int r, .ref vv]) rfl ?_
                refine z_callQ (va_runI (As := [.int (nI (vty v4)), .int (if z4 < 0 then 1 else 0), .int (nI kb), .ref ad64]) (rest := [.ref ad59, .int r, .ref vv]) ⟨hx, hb, hml, hown, hts⟩ (c_Whole_init l D dT _ ad59 oad59 (nI (vty v4)) (if z4 < 0 then 1 else 0) (nI kb) ad64 (by split <;> rfl) (by split <;> rfl)) ⟨callB_of 4 hts (gI gd_up gd_c q216) rfl rfl rfl (ht _ q14) (ht _ q214) hd_Whole_init ⟨Nat.le_of_ble_eq_true rfl, Nat.le_of_ble_eq_true rfl⟩, rfl, ht _ q215⟩ (z_preS hK) rfl rfl hl.1 rfl (lv_room (Nat.le_of_ble_eq_true rfl)) d_V_times_109 ⟨(Nat.le_of_ble_eq_true rfl), (Nat.le_of_ble_eq_true rfl)⟩) hS (fun q9 h9 => by rw [show q9 = ad59 from h9]; exact hAad59) (fun v66 H locs hv65 hz67 hf68 hS => ?_)
                obtain ⟨rfl, oad59⟩ := hv65
                have oad59 : va_at D cls (ad59, .inr (2, [.int (nI (vty v4)), .int (2 + (nI kb) / 7), .int (if z4 < 0 then 1 else 0), .int (nI kb), .ref ad64])) H := oad59
                have oad64 := oad64.kept (hf68 _ oad64.lt (fun h9 => (Ne.symm nead59ad64) h9))
                have hN := hN.call hz67 hf68 (fun x hx h9 => by have h8 : x = ad59 := h9; omega)
                refine W.eq (g2 := F0 m 112 ls [.ref ad59, .int r, .ref vv]) rfl ?_
                obtain ⟨hs1, hs2⟩ := times_sgn (z := z4) (n := nn)
                have hzi : (if z4 * 2 ^ nn < 0 then (1 : Int32) else 0) = (if z4 < 0 then 1 else 0) := by
                  by_cases h9 : z4 < 0
                  · rw [if_pos h9, if_pos (hs1.mpr h9)]
                  · rw [if_neg h9, if_neg (fun h8 => h9 (hs1.mp h8))]
                have hkl : kb ≤ 63 := by omega
                have hzl : (z4 * 2 ^ nn).natAbs < 2 ^ 63 := nb_lt.mp (by rw [hs2, hkb]; exact hkl)
                have hwx : wty tb (.pow (.num (z4 * 2 ^ nn)) (vty v4)) 0 (vty v4) := by
                  have h2 : (0 : Int) < 2 ^ nn := Int.pow_pos (by decide)
                  refine ⟨rfl, rfl, rfl, hc4.2.1, Nat.lt_trans hzl (Nat.pow_lt_pow_right (by decide) (by decide)), fun h9 => Int.mul_nonneg (hc4.2.2.2.1 h9) (Int.le_of_lt h2), fun h9 => hzl⟩
                have hrx : rv D dT Bq H (.pow (.num (z4 * 2 ^ nn)) (vty v4)) ad59 := rv_num.mpr ⟨ad64, by rw [hzi, wl_num (by rw [hs2, hkb]; omega), hs2, hkb]; exact oad59, (fun h9 => absurd (hBs _ h9) (Nat.not_lt.mpr hgad59)), by rw [hs2, hkb]; exact oad64, (fun h9 => absurd (hBs _ h9) (Nat.not_lt.mpr hgad64))⟩
                refine z_callQ (va_runV (C := "ValueTrees") (As := [.int r, .ref ad59]) (rest := []) ⟨hx, hb, hml, hown, hts⟩ (c_V_keep_r l D dT _ Bq vv rg li ed tb tc RV (hC.up hN) hV r (.pow (.num (z4 * 2 ^ nn)) (vty v4)) (vty v4) ad59 hwx hrx (by rw [l_num, nser_len, hs2, hkb]; omega)) ⟨callB_of 2 hts (gI gd_up gd_c q264) rfl rfl rfl (ht _ q1) (ht _ q261) hd_V_keep ⟨Nat.le_of_ble_eq_true rfl, Nat.le_of_ble_eq_true rfl⟩, ht _ q263, ht _ qs6⟩ (z_preV hK (va_recv hK.1 (z_1 (hvv.grew hN.2)) (ci := 0) (q0 := 0) rfl rfl)) rfl rfl hl.1 rfl (lv_room (Nat.le_of_ble_eq_true rfl)) d_V_times_112 ⟨(Nat.le_of_ble_eq_true rfl), (Nat.le_of_ble_eq_true rfl)⟩) hS (fun _ h9 => Or.inl h9) (fun v70 H locs hv69 hz71 hf72 hS => ?_)
                obtain ⟨rfl, hC⟩ := hv69
                refine W.eq (g2 := F0 m 115 ls [.int ((kp RV r (some (.pow (.num (z4 * 2 ^ nn)) (vty v4)))).1)]) rfl ?_
                exact z_iretQ hx hb hr hlocks d_V_times_115 hS (Nat.le_of_ble_eq_true rfl) (Nat.le_of_ble_eq_true rfl) (by rw [show o_times RV f (nI nn) = some (.pow (.num (z4 * 2 ^ nn)) (vty v4)) from (by unfold o_times; rw [hr5, ec4]; dsimp only; rw [nI_clamp (by omega), if_pos ⟨nI_pos' (by omega), (nI_leI (a := nn) (b := 1000) (by omega) (by decide)).mpr hn1000, by rw [if_pos hfour]; omega⟩]; try rfl)]; exact ⟨rfl, hC⟩)
              · have nc58 : ¬ kb ≤ 63 := fun h9 => c58 ((nI_leI (a := kb) (b := 63) (by omega) (by omega)).mpr h9)
                refine lv_iconst (v := (-1)) hx hb d_V_times_78 (by decide) ?_
                exact z_iretQ hx hb hr hlocks d_V_times_79 hS (Nat.le_of_ble_eq_true rfl) (Nat.le_of_ble_eq_true rfl) (by rw [show o_times RV f (nI nn) = none from (by unfold o_times; rw [hr5, ec4]; dsimp only; rw [nI_clamp (by omega), if_neg (fun h9 => by have h8 := h9.2.2; rw [if_pos hfour] at h8; have h7 : nb z4.natAbs = 0 → kb = 0 := (fun h6 => by rw [← hkb, nb_0 h6, Nat.zero_mul]; rfl); omega)])]; exact ⟨rfl, hC⟩)
        · refine lv_iconst (v := (-1)) hx hb d_V_times_33 (by decide) ?_
          exact z_iretQ hx hb hr hlocks d_V_times_34 hS (Nat.le_of_ble_eq_true rfl) (Nat.le_of_ble_eq_true rfl) (by rw [show o_times RV f n = none from (by unfold o_times; rw [hr5, ec4]; dsimp only; rw [if_neg (fun h9 => c9 h9.2.1)])]; exact ⟨rfl, hC⟩)
    | natCast k4 =>
      obtain ⟨x4, oa4, hna4, hx4⟩ := rv_row.mp hq4
      have hk4 : k4 % 16 ≤ 8 := hc4.2.2.1
      refine lv_astore (lv' := [(5, .ref a3), (0, .ref vv), (1, .int r), (2, .int f), (3, .int n)]) hx hb d_V_times_5 hl (by decide) rfl (fun ls hl => ?_)
      refine lv_aload hx hb d_V_times_7 (lv_at hl 0 rfl) ?_
      refine va_instNo (C := "ValueTrees$Row") hx hb hown (ht _ q205) (hK.2.1 _ nc_Row_Whole) (z_recv hK (oa4.grew hN.2) rfl) d_V_times_9 ?_
      refine lv_if_eq (tgt := 33) hx hb d_V_times_12 (by decide) (fun _ => ?_) (fun c73 => absurd c73 (by decide))
      refine lv_iconst (v := (-1)) hx hb d_V_times_33 (by decide) ?_
      exact z_iretQ hx hb hr hlocks d_V_times_34 hS (Nat.le_of_ble_eq_true rfl) (Nat.le_of_ble_eq_true rfl) (by rw [show o_times RV f n = none from (by unfold o_times; rw [hr5, ec4])]; exact ⟨rfl, hC⟩)
    | intCast k4 =>
      obtain ⟨oa4, hna4⟩ := rv_nil.mp hq4
      refine lv_astore (lv' := [(5, .ref a3), (0, .ref vv), (1, .int r), (2, .int f), (3, .int n)]) hx hb d_V_times_5 hl (by decide) rfl (fun ls hl => ?_)
      refine lv_aload hx hb d_V_times_7 (lv_at hl 0 rfl) ?_
      refine va_instNo (C := "ValueTrees$Chain") hx hb hown (ht _ q205) (hK.2.1 _ nc_Chain_Whole) (z_recv hK (oa4.grew hN.2) rfl) d_V_times_9 ?_
      refine lv_if_eq (tgt := 33) hx hb d_V_times_12 (by decide) (fun _ => ?_) (fun c74 => absurd c74 (by decide))
      refine lv_iconst (v := (-1)) hx hb d_V_times_33 (by decide) ?_
      exact z_iretQ hx hb hr hlocks d_V_times_34 hS (Nat.le_of_ble_eq_true rfl) (Nat.le_of_ble_eq_true rfl) (by rw [show o_times RV f n = none from (by unfold o_times; rw [hr5, ec4])]; exact ⟨rfl, hC⟩)
    | var i4 =>
      obtain ⟨oa4, hna4⟩ := rv_var.mp hq4
      refine lv_astore (lv' := [(5, .ref a3), (0, .ref vv), (1, .int r), (2, .int f), (3, .int n)]) hx hb d_V_times_5 hl (by decide) rfl (fun ls hl => ?_)
      refine lv_aload hx hb d_V_times_7 (lv_at hl 0 rfl) ?_
      refine va_instNo (C := "ValueTrees$Choice") hx hb hown (ht _ q205) (hK.2.1 _ nc_Choice_Whole) (z_recv hK (oa4.grew hN.2) rfl) d_V_times_9 ?_
      refine lv_if_eq (tgt := 33) hx hb d_V_times_12 (by decide) (fun _ => ?_) (fun c75 => absurd c75 (by decide))
      refine lv_iconst (v := (-1)) hx hb d_V_times_33 (by decide) ?_
      exact z_iretQ hx hb hr hlocks d_V_times_34 hS (Nat.le_of_ble_eq_true rfl) (Nat.le_of_ble_eq_true rfl) (by rw [show o_times RV f n = none from (by unfold o_times; rw [hr5, ec4])]; exact ⟨rfl, hC⟩)
    | neg ch4 =>
      obtain ⟨e4, f4, oa4, hna4, oe4, hne4, hch4⟩ := rv_neg.mp hq4
      refine lv_astore (lv' := [(5, .ref a3), (0, .ref vv), (1, .int r), (2, .int f), (3, .int n)]) hx hb d_V_times_5 hl (by decide) rfl (fun ls hl => ?_)
      refine lv_aload hx hb d_V_times_7 (lv_at hl 0 rfl) ?_
      refine va_instNo (C := "ValueTrees$Tree") hx hb hown (ht _ q205) (hK.2.1 _ nc_Tree_Whole) (z_recv hK (oa4.grew hN.2) rfl) d_V_times_9 ?_
      refine lv_if_eq (tgt := 33) hx hb d_V_times_12 (by decide) (fun _ => ?_) (fun c76 => absurd c76 (by decide))
      refine lv_iconst (v := (-1)) hx hb d_V_times_33 (by decide) ?_
      exact z_iretQ hx hb hr hlocks d_V_times_34 hS (Nat.le_of_ble_eq_true rfl) (Nat.le_of_ble_eq_true rfl) (by rw [show o_times RV f n = none from (by unfold o_times; rw [hr5, ec4])]; exact ⟨rfl, hC⟩)
    | add x4 y4 =>
      obtain ⟨b4, d4, oa4, hna4, hb4, hd4⟩ := rv_add.mp hq4
      refine lv_astore (lv' := [(5, .ref a3), (0, .ref vv), (1, .int r), (2, .int f), (3, .int n)]) hx hb d_V_times_5 hl (by decide) rfl (fun ls hl => ?_)
      refine lv_aload hx hb d_V_times_7 (lv_at hl 0 rfl) ?_
      refine va_instNo (C := "ValueTrees$Couple") hx hb hown (ht _ q205) (hK.2.1 _ nc_Couple_Whole) (z_recv hK (oa4.grew hN.2) rfl) d_V_times_9 ?_
      refine lv_if_eq (tgt := 33) hx hb d_V_times_12 (by decide) (fun _ => ?_) (fun c77 => absurd c77 (by decide))
      refine lv_iconst (v := (-1)) hx hb d_V_times_33 (by decide) ?_
      exact z_iretQ hx hb hr hlocks d_V_times_34 hS (Nat.le_of_ble_eq_true rfl) (Nat.le_of_ble_eq_true rfl) (by rw [show o_times RV f n = none from (by unfold o_times; rw [hr5, ec4])]; exact ⟨rfl, hC⟩)
    | sub a4 x4 =>
      obtain ⟨b4, oa4, hna4, hb4⟩ := rv_sub.mp hq4
      refine lv_astore (lv' := [(5, .ref a3), (0, .ref vv), (1, .int r), (2, .int f), (3, .int n)]) hx hb d_V_times_5 hl (by decide) rfl (fun ls hl => ?_)
      refine lv_aload hx hb d_V_times_7 (lv_at hl 0 rfl) ?_
      refine va_instNo (C := "ValueTrees$Choice") hx hb hown (ht _ q205) (hK.2.1 _ nc_Choice_Whole) (z_recv hK (oa4.grew hN.2) rfl) d_V_times_9 ?_
      refine lv_if_eq (tgt := 33) hx hb d_V_times_12 (by decide) (fun _ => ?_) (fun c78 => absurd c78 (by decide))
      refine lv_iconst (v := (-1)) hx hb d_V_times_33 (by decide) ?_
      exact z_iretQ hx hb hr hlocks d_V_times_34 hS (Nat.le_of_ble_eq_true rfl) (Nat.le_of_ble_eq_true rfl) (by rw [show o_times RV f n = none from (by unfold o_times; rw [hr5, ec4])]; exact ⟨rfl, hC⟩)
    | mul x4 y4 =>
      obtain ⟨b4, d4, oa4, hna4, hb4, hd4⟩ := rv_mul.mp hq4
      refine lv_astore (lv' := [(5, .ref a3), (0, .ref vv), (1, .int r), (2, .int f), (3, .int n)]) hx hb d_V_times_5 hl (by decide) rfl (fun ls hl => ?_)
      refine lv_aload hx hb d_V_times_7 (lv_at hl 0 rfl) ?_
      refine va_instNo (C := "ValueTrees$Chain") hx hb hown (ht _ q205) (hK.2.1 _ nc_Chain_Whole) (z_recv hK (oa4.grew hN.2) rfl) d_V_times_9 ?_
      refine lv_if_eq (tgt := 33) hx hb d_V_times_12 (by decide) (fun _ => ?_) (fun c79 => absurd c79 (by decide))
      refine lv_iconst (v := (-1)) hx hb d_V_times_33 (by decide) ?_
      exact z_iretQ hx hb hr hlocks d_V_times_34 hS (Nat.le_of_ble_eq_true rfl) (Nat.le_of_ble_eq_true rfl) (by rw [show o_times RV f n = none from (by unfold o_times; rw [hr5, ec4])]; exact ⟨rfl, hC⟩)
    | pow c8 t8 => exact absurd hc4.1 (by decide)
