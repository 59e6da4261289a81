abbrev b_V_pair : ByteArray := prog_1_method_10_code
abbrev y_V_pair : MethodName := ⟨"ValueTrees", "pair", "(III)I"⟩
abbrev w_V_pair : List Cond := .code y_V_pair b_V_pair 8 (Option.some .int) :: gt
theorem hd_V_pair : (y_V_pair).cls ≠ "java/lang/invoke/MethodHandle" ∧ (y_V_pair).cls ≠ "java/lang/invoke/VarHandle" ∧ (parseMethodDescriptor (y_V_pair).desc).map (fun d => d.parameters.length) = some 3 := by decide +kernel
theorem d_V_pair_0 : decode b_V_pair 0 = .ok (.aload_n 0, 1) := by decide +kernel
theorem d_V_pair_1 : decode b_V_pair 1 = .ok (.iload_n 2, 1) := by decide +kernel
theorem d_V_pair_2 : decode b_V_pair 2 = .ok (.invokevirtual 77, 3) := by decide +kernel
theorem d_V_pair_5 : decode b_V_pair 5 = .ok (.astore 4, 2) := by decide +kernel
theorem d_V_pair_7 : decode b_V_pair 7 = .ok (.aload_n 0, 1) := by decide +kernel
theorem d_V_pair_8 : decode b_V_pair 8 = .ok (.iload_n 3, 1) := by decide +kernel
theorem d_V_pair_9 : decode b_V_pair 9 = .ok (.invokevirtual 77, 3) := by decide +kernel
theorem d_V_pair_12 : decode b_V_pair 12 = .ok (.astore 5, 2) := by decide +kernel
theorem d_V_pair_14 : decode b_V_pair 14 = .ok (.aload 4, 2) := by decide +kernel
theorem d_V_pair_16 : decode b_V_pair 16 = .ok (.ifnull 15, 3) := by decide +kernel
theorem d_V_pair_19 : decode b_V_pair 19 = .ok (.aload 5, 2) := by decide +kernel
theorem d_V_pair_21 : decode b_V_pair 21 = .ok (.ifnull 10, 3) := by decide +kernel
theorem d_V_pair_24 : decode b_V_pair 24 = .ok (.iload_n 1, 1) := by decide +kernel
theorem d_V_pair_25 : decode b_V_pair 25 = .ok (.invokestatic 130, 3) := by decide +kernel
theorem d_V_pair_28 : decode b_V_pair 28 = .ok (.ifCond .ne 5, 3) := by decide +kernel
theorem d_V_pair_31 : decode b_V_pair 31 = .ok (.iconst (-1), 1) := by decide +kernel
theorem d_V_pair_32 : decode b_V_pair 32 = .ok (.ireturn, 1) := by decide +kernel
theorem d_V_pair_33 : decode b_V_pair 33 = .ok (.aload_n 0, 1) := by decide +kernel
theorem d_V_pair_34 : decode b_V_pair 34 = .ok (.bipush 18, 2) := by decide +kernel
theorem d_V_pair_36 : decode b_V_pair 36 = .ok (.aload 4, 2) := by decide +kernel
theorem d_V_pair_38 : decode b_V_pair 38 = .ok (.getfield 125, 3) := by decide +kernel
theorem d_V_pair_41 : decode b_V_pair 41 = .ok (.aload 5, 2) := by decide +kernel
theorem d_V_pair_43 : decode b_V_pair 43 = .ok (.getfield 125, 3) := by decide +kernel
theorem d_V_pair_46 : decode b_V_pair 46 = .ok (.invokevirtual 35, 3) := by decide +kernel
theorem d_V_pair_49 : decode b_V_pair 49 = .ok (.astore 6, 2) := by decide +kernel
theorem d_V_pair_51 : decode b_V_pair 51 = .ok (.aload 6, 2) := by decide +kernel
theorem d_V_pair_53 : decode b_V_pair 53 = .ok (.ifnonnull 5, 3) := by decide +kernel
theorem d_V_pair_56 : decode b_V_pair 56 = .ok (.iconst (-1), 1) := by decide +kernel
theorem d_V_pair_57 : decode b_V_pair 57 = .ok (.ireturn, 1) := by decide +kernel
theorem d_V_pair_58 : decode b_V_pair 58 = .ok (.aload 4, 2) := by decide +kernel
theorem d_V_pair_60 : decode b_V_pair 60 = .ok (.aload 5, 2) := by decide +kernel
theorem d_V_pair_62 : decode b_V_pair 62 = .ok (.invokestatic 134, 3) := by decide +kernel
theorem d_V_pair_65 : decode b_V_pair 65 = .ok (.sipush 160, 3) := by decide +kernel
theorem d_V_pair_68 : decode b_V_pair 68 = .ok (.if_icmp .le 6, 3) := by decide +kernel
theorem d_V_pair_71 : decode b_V_pair 71 = .ok (.bipush (-2), 2) := by decide +kernel
theorem d_V_pair_73 : decode b_V_pair 73 = .ok (.ireturn, 1) := by decide +kernel
theorem d_V_pair_74 : decode b_V_pair 74 = .ok (.aload_n 0, 1) := by decide +kernel
theorem d_V_pair_75 : decode b_V_pair 75 = .ok (.aload 6, 2) := by decide +kernel
theorem d_V_pair_77 : decode b_V_pair 77 = .ok (.invokevirtual 39, 3) := by decide +kernel
theorem d_V_pair_80 : decode b_V_pair 80 = .ok (.istore 7, 2) := by decide +kernel
theorem d_V_pair_82 : decode b_V_pair 82 = .ok (.iload 7, 2) := by decide +kernel
theorem d_V_pair_84 : decode b_V_pair 84 = .ok (.bipush (-2), 2) := by decide +kernel
theorem d_V_pair_86 : decode b_V_pair 86 = .ok (.if_icmp .ne 8, 3) := by decide +kernel
theorem d_V_pair_89 : decode b_V_pair 89 = .ok (.bipush (-2), 2) := by decide +kernel
theorem d_V_pair_91 : decode b_V_pair 91 = .ok (.goto 21, 3) := by decide +kernel
theorem d_V_pair_94 : decode b_V_pair 94 = .ok (.aload_n 0, 1) := by decide +kernel
theorem d_V_pair_95 : decode b_V_pair 95 = .ok (.iload_n 1, 1) := by decide +kernel
theorem d_V_pair_96 : decode b_V_pair 96 = .ok (.new 135, 3) := by decide +kernel
theorem d_V_pair_99 : decode b_V_pair 99 = .ok (.dup, 1) := by decide +kernel
theorem d_V_pair_100 : decode b_V_pair 100 = .ok (.iload 7, 2) := by decide +kernel
theorem d_V_pair_102 : decode b_V_pair 102 = .ok (.aload 4, 2) := by decide +kernel
theorem d_V_pair_104 : decode b_V_pair 104 = .ok (.aload 5, 2) := by decide +kernel
theorem d_V_pair_106 : decode b_V_pair 106 = .ok (.invokespecial 140, 3) := by decide +kernel
theorem d_V_pair_109 : decode b_V_pair 109 = .ok (.invokevirtual 73, 3) := by decide +kernel
theorem d_V_pair_112 : decode b_V_pair 112 = .ok (.ireturn, 1) := by decide +kernel
set_option maxHeartbeats 4000000 in
set_option maxRecDepth 100000 in
theorem p_V_pair (l : Launch) (D : va_G) (dT : Nat → ClassId) (H : Heap) (Bq : Nat → Prop) (vv rg li ed : Nat) (tb : Nat → TR) (tc : Nat) (RV : Nat → Option VT) (hC : cI D dT Bq vv rg li ed tb tc RV H) (hV : vOK tb tc RV) (r a b : Int32) : Met l y_V_pair w_V_pair ({ frames := 8, cells := 3, slots := 3009, locals := 175 }) (z_P D dT [.ref vv, .int r, .int a, .int b] H) (z_Q (fun q => q = rg ∨ q = li ∨ q = ed ∨ H.size ≤ q) (fun v H1 => v = some (.int (a_pair tb tc RV r a b).1) ∧ cX D dT Bq vv rg li ed (a_pair tb tc RV r a b).2.2.1 (a_pair tb tc RV r a b).2.2.2 (a_pair tb tc RV r a b).2.1 H.size H1)) 3 3009 (fun q => q = rg ∨ q = li ∨ q = ed ∨ H.size ≤ q) := by
  obtain ⟨⟨hBs, hBr, hBl, hBe, hBv, hrl, hre, hle⟩, hvv, hCR, hCT⟩ := id hC
  have hO := hV.1
  have htc := hO.1
  have htc10 := hO.2.1
  refine Met.ofW (cc := b_V_pair) (maxL := 8) (ret := (Option.some .int)) (by decide) rfl ?_
  intro p e s m args below meth c s₁ B hml hv
  obtain ⟨rfl, rfl, hK⟩ := hv
  have hx := B.exec
  have hb := B.bytes
  have hr := B.returns
  have hts := atoms_spec (ws := w_V_pair) B.pre
  have ht : ∀ w9 ∈ gt, w9.before [.ref vv, .int r, .int a, .int b].toArray s = true := fun w9 h => hts w9 (List.mem_cons_of_mem _ h)
  have hown : s.vm.findClass "ValueTrees" = some m.cls := findClass_of_methodNamed B.named
  have hlocks := B.notSynchronized
  have hS : va_S (fun q => q = rg ∨ q = li ∨ q = ed ∨ s.heap.size ≤ q) s.heap s.heap [] := va_S.rf
  have hl := lv_entry ([.ref vv, .int r, .int a, .int b]) (n := 8) (Nat.le_of_ble_eq_true rfl)
  rw [lg_entry_eq]
  generalize (lg_sl ([.ref vv, .int r, .int a, .int b]) ++ List.replicate (8 - (lg_sl ([.ref vv, .int r, .int a, .int b])).length) Slot.unset).toArray = ls at hl ⊢
  have hl : lv_has ls 8 [(0, .ref vv), (1, .int r), (2, .int a), (3, .int b)] := hl
  have hN : nU s.heap s.heap := nU.rf
  refine lv_aload_n hx hb d_V_pair_0 rfl (lv_at hl 0 rfl) ?_
  refine lv_iload_n hx hb d_V_pair_1 rfl (lv_at hl 2 rfl) ?_
  refine z_callR (va_runV (C := "ValueTrees") (As := [.int a]) (rest := []) ⟨hx, hb, hml, hown, hts⟩ (c_V_held l D dT _ Bq vv rg li ed tb tc RV (hC.up hN) hV a) ⟨callB_of 1 hts (gI gd_up gd_c q275) rfl rfl rfl (ht _ q1) (ht _ q272) hd_V_held ⟨Nat.le_of_ble_eq_true rfl, Nat.le_of_ble_eq_true rfl⟩, ht _ q274, ht _ qs7⟩ (z_preV hK (va_recv hK.1 (z_1 (hvv.grew hN.2)) (ci := 0) (q0 := 0) rfl rfl)) rfl rfl hl.1 rfl (lv_room (Nat.le_of_ble_eq_true rfl)) d_V_pair_2 ⟨Nat.zero_le _, Nat.zero_le _⟩) (fun v2 hv1 => ?_)
  rcases hv1 with ⟨rfl, hr5⟩ | ⟨a3, v4, rfl, hr5, hq4⟩
  · refine lv_astoreN (lv' := [(4, .null), (0, .ref vv), (1, .int r), (2, .int a), (3, .int b)]) hx hb d_V_pair_5 hl (by decide) rfl (fun ls hl => ?_)
    refine lv_aload_n hx hb d_V_pair_7 rfl (lv_at hl 1 rfl) ?_
    refine lv_iload_n hx hb d_V_pair_8 rfl (lv_at hl 4 rfl) ?_
    refine z_callR (va_runV (C := "ValueTrees") (As := [.int b]) (rest := []) ⟨hx, hb, hml, hown, hts⟩ (c_V_held l D dT _ Bq vv rg li ed tb tc RV (hC.up hN) hV b) ⟨callB_of 1 hts (gI gd_up gd_c q275) rfl rfl rfl (ht _ q1) (ht _ q272) hd_V_held ⟨Nat.le_of_ble_eq_true rfl, Nat.le_of_ble_eq_true rfl⟩, ht _ q274, ht _ qs7⟩ (z_preV hK (va_recv hK.1 (z_1 (hvv.grew hN.2)) (ci := 0) (q0 := 0) rfl rfl)) rfl rfl hl.1 rfl (lv_room (Nat.le_of_ble_eq_true rfl)) d_V_pair_9 ⟨Nat.zero_le _, Nat.zero_le _⟩) (fun v7 hv6 => ?_)
    rcases hv6 with ⟨rfl, hr10⟩ | ⟨a8, v9, rfl, hr10, hq9⟩
    · refine lv_astoreN (lv' := [(5, .null), (4, .null), (0, .ref vv), (1, .int r), (2, .int a), (3, .int b)]) hx hb d_V_pair_12 hl (by decide) rfl (fun ls hl => ?_)
      refine lv_aloadN hx hb d_V_pair_14 (lv_at hl 1 rfl) ?_
      refine lv_ifnullN (tgt := 31) hx hb d_V_pair_16 (by decide) ?_
      refine lv_iconst (v := (-1)) hx hb d_V_pair_31 (by decide) ?_
      exact z_iretQ hx hb hr hlocks d_V_pair_32 hS (Nat.le_of_ble_eq_true rfl) (Nat.le_of_ble_eq_true rfl) (by rw [pr_a hr5]; exact ⟨rfl, cX.rf (hC.up hN)⟩)
    · obtain ⟨ht9, hw9, hl9⟩ := vOK_get hV hr10
      obtain ⟨hh9, hnb9⟩ := rv_hd hw9 hq9
      refine lv_astore (lv' := [(5, .ref a8), (4, .null), (0, .ref vv), (1, .int r), (2, .int a), (3, .int b)]) hx hb d_V_pair_12 hl (by decide) rfl (fun ls hl => ?_)
      refine lv_aloadN hx hb d_V_pair_14 (lv_at hl 1 rfl) ?_
      refine lv_ifnullN (tgt := 31) hx hb d_V_pair_16 (by decide) ?_
      refine lv_iconst (v := (-1)) hx hb d_V_pair_31 (by decide) ?_
      exact z_iretQ hx hb hr hlocks d_V_pair_32 hS (Nat.le_of_ble_eq_true rfl) (Nat.le_of_ble_eq_true rfl) (by rw [pr_a hr5]; exact ⟨rfl, cX.rf (hC.up hN)⟩)
  · obtain ⟨ht4, hw4, hl4⟩ := vOK_get hV hr5
    obtain ⟨hh4, hnb4⟩ := rv_hd hw4 hq4
    refine lv_astore (lv' := [(4, .ref a3), (0, .ref vv), (1, .int r), (2, .int a), (3, .int b)]) hx hb d_V_pair_5 hl (by decide) rfl (fun ls hl => ?_)
    refine lv_aload_n hx hb d_V_pair_7 rfl (lv_at hl 1 rfl) ?_
    refine lv_iload_n hx hb d_V_pair_8 rfl (lv_at hl 4 rfl) ?_
    refine z_callR (va_runV (C := "ValueTrees") (As := [.int b]) (rest := []) ⟨hx, hb, hml, hown, hts⟩ (c_V_held l D dT _ Bq vv rg li ed tb tc RV (hC.up hN) hV b) ⟨callB_of 1 hts (gI gd_up gd_c q275) rfl rfl rfl (ht _ q1) (ht _ q272) hd_V_held ⟨Nat.le_of_ble_eq_true rfl, Nat.le_of_ble_eq_true rfl⟩, ht _ q274, ht _ qs7⟩ (z_preV hK (va_recv hK.1 (z_1 (hvv.grew hN.2)) (ci := 0) (q0 := 0) rfl rfl)) rfl rfl hl.1 rfl (lv_room (Nat.le_of_ble_eq_true rfl)) d_V_pair_9 ⟨Nat.zero_le _, Nat.zero_le _⟩) (fun v12 hv11 => ?_)
    rcases hv11 with ⟨rfl, hr15⟩ | ⟨a13, v14, rfl, hr15, hq14⟩
    · refine lv_astoreN (lv' := [(5, .null), (4, .ref a3), (0, .ref vv), (1, .int r), (2, .int a), (3, .int b)]) hx hb d_V_pair_12 hl (by decide) rfl (fun ls hl => ?_)
      refine lv_aload hx hb d_V_pair_14 (lv_at hl 1 rfl) ?_
      refine lv_ifnull hx hb d_V_pair_16 ?_
      refine lv_aloadN hx hb d_V_pair_19 (lv_at hl 0 rfl) ?_
      refine lv_ifnullN (tgt := 31) hx hb d_V_pair_21 (by decide) ?_
      refine lv_iconst (v := (-1)) hx hb d_V_pair_31 (by decide) ?_
      exact z_iretQ hx hb hr hlocks d_V_pair_32 hS (Nat.le_of_ble_eq_true rfl) (Nat.le_of_ble_eq_true rfl) (by rw [pr_b hr15]; exact ⟨rfl, cX.rf (hC.up hN)⟩)
    · obtain ⟨ht14, hw14, hl14⟩ := vOK_get hV hr15
      obtain ⟨hh14, hnb14⟩ := rv_hd hw14 hq14
      refine lv_astore (lv' := [(5, .ref a13), (4, .ref a3), (0, .ref vv), (1, .int r), (2, .int a), (3, .int b)]) hx hb d_V_pair_12 hl (by decide) rfl (fun ls hl => ?_)
      refine lv_aload hx hb d_V_pair_14 (lv_at hl 1 rfl) ?_
      refine lv_ifnull hx hb d_V_pair_16 ?_
      refine lv_aload hx hb d_V_pair_19 (lv_at hl 0 rfl) ?_
      refine lv_ifnull hx hb d_V_pair_21 ?_
      refine lv_iload_n hx hb d_V_pair_24 rfl (lv_at hl 3 rfl) ?_
      refine z_callR (va_runS (As := [.int r]) (rest := []) ⟨hx, hb, hml, hown, hts⟩ (c_V_isRegister l D dT _ r) ⟨callB_of 1 hts (gI gd_up gd_c q267) rfl rfl rfl (ht _ q1) (ht _ q265) hd_V_isRegister ⟨Nat.le_of_ble_eq_true rfl, Nat.le_of_ble_eq_true rfl⟩, ht _ q266⟩ (z_preS hK) rfl rfl hl.1 rfl (lv_room (Nat.le_of_ble_eq_true rfl)) d_V_pair_25 ⟨Nat.zero_le _, Nat.zero_le _⟩) (fun v17 hv16 => ?_)
      have hv16 : v17 = .int (if inR r then 1 else 0) := hv16
      rcases Classical.em (inR r) with hq18 | hq18
      · rw [if_pos hq18] at hv16
        subst hv16
        refine lv_if_ne (tgt := 33) hx hb d_V_pair_28 (by decide) (fun _ => ?_) (fun c19 => absurd c19 (by decide))
        refine lv_aload_n hx hb d_V_pair_33 rfl (lv_at hl 2 rfl) ?_
        refine lv_bipush (v := 18) hx hb d_V_pair_34 (by decide) ?_
        refine lv_aload hx hb d_V_pair_36 (lv_at hl 1 rfl) ?_
        refine z_vty hx hb ht hown hK (hh4.grew hN.2) (ht _ q235) d_V_pair_38 ?_
        refine lv_aload hx hb d_V_pair_41 (lv_at hl 0 rfl) ?_
        refine z_vty hx hb ht hown hK (hh14.grew hN.2) (ht _ q235) d_V_pair_43 ?_
        refine z_callQ (va_runV (C := "ValueTrees") (As := [.int 18, .int (nI (vty v4)), .int (nI (vty v14))]) (rest := []) ⟨hx, hb, hml, hown, hts⟩ (c_V_wantedType l D dT _ Bq vv rg li ed tb tc RV (hC.up hN) hV 18 (nI (vty v4)) (nI (vty v14))) ⟨callB_of 3 hts (gI gd_up gd_c q159) rfl rfl rfl (ht _ q1) (ht _ q156) hd_V_wantedType ⟨Nat.le_of_ble_eq_true rfl, Nat.le_of_ble_eq_true rfl⟩, ht _ q158, ht _ qs3⟩ (z_preV hK (va_recv hK.1 (z_1 (hvv.grew hN.2)) (ci := 0) (q0 := 0) rfl rfl)) rfl rfl hl.1 rfl (lv_room (Nat.le_of_ble_eq_true rfl)) d_V_pair_46 ⟨(Nat.le_of_ble_eq_true rfl), (Nat.le_of_ble_eq_true rfl)⟩) hS (fun _ h9 => Or.inr (Or.inr (Or.inr (Nat.le_trans hN.1 h9)))) (fun v21 H locs hv20 hz22 hf23 hS => ?_)
        rcases hv20 with ⟨rfl, hro0⟩ | ⟨ad24, wn9, k9, ob9, rfl, hrow, hro, hxad24, oad24⟩
        · have hN := hN.call hz22 hf23 (fun x9 hx9 h9 => absurd (Nat.lt_of_lt_of_le hx9 hN.1) (Nat.not_lt.mpr h9))
          refine W.eq (g2 := F0 m 49 ls [.null]) rfl ?_
          have hrw := row_2 (tb := tb) (wn := 18) htc (by decide) (by decide) ht4 ht14
          have hro0 : o_row tb tc (nI 18) (nI (vty v4)) (nI (vty v14)) = none := hro0
          rw [hrw] at hro0
          have hp9 : ¬ 1 + tP (tb (vty v4)) + tP (tb (vty v14)) ≤ 200 := fun h9 => by
            rw [if_pos ⟨fun h8 => absurd h8 (by decide), h9⟩] at hro0; cases hro0
          refine lv_astoreN (lv' := [(6, .null), (5, .ref a13), (4, .ref a3), (0, .ref vv), (1, .int r), (2, .int a), (3, .int b)]) hx hb d_V_pair_49 hl (by decide) rfl (fun ls hl => ?_)
          refine lv_aloadN hx hb d_V_pair_51 (lv_at hl 0 rfl) ?_
          refine lv_ifnonnullN hx hb d_V_pair_53 ?_
          refine lv_iconst (v := (-1)) hx hb d_V_pair_56 (by decide) ?_
          exact z_iretQ hx hb hr hlocks d_V_pair_57 hS (Nat.le_of_ble_eq_true rfl) (Nat.le_of_ble_eq_true rfl) (by rw [pr_r hr5 hr15 (fun h9 => hp9 h9.2)]; exact ⟨rfl, cX.rf (hC.up hN)⟩)
        · have hgad24 : s.heap.size ≤ ad24 := Nat.le_trans hN.1 hxad24
          have hN := hN.call hz22 hf23 (fun x9 hx9 h9 => absurd (Nat.lt_of_lt_of_le hx9 hN.1) (Nat.not_lt.mpr h9))
          refine W.eq (g2 := F0 m 49 ls [.ref ad24]) rfl ?_
          have hrw := row_2 (tb := tb) (wn := 18) htc (by decide) (by decide) ht4 ht14
          have hrow : o_row tb tc (nI 18) (nI (vty v4)) (nI (vty v14)) = some (mkR tb wn9 k9 ob9) := hrow
          rw [hrw] at hrow
          have hp9 : 1 + tP (tb (vty v4)) + tP (tb (vty v14)) ≤ 200 := Decidable.byContradiction (fun h9 => by
            rw [if_neg (fun h8 => h9 h8.2)] at hrow; cases hrow)
          rw [if_pos ⟨fun h8 => absurd h8 (by decide), hp9⟩] at hrow
          have hmk9 := Option.some.inj hrow
          have e18 : 18 = wn9 := congrArg tW hmk9
          have ek9 : some (vty v4) = some k9 := congrArg tL hmk9
          have eo9 : some (vty v14) = ob9 := congrArg tR hmk9
          subst e18
          cases ek9
          subst eo9
          refine lv_astore (lv' := [(6, .ref ad24), (5, .ref a13), (4, .ref a3), (0, .ref vv), (1, .int r), (2, .int a), (3, .int b)]) hx hb d_V_pair_49 hl (by decide) rfl (fun ls hl => ?_)
          refine lv_aload hx hb d_V_pair_51 (lv_at hl 0 rfl) ?_
          refine lv_ifnonnull (tgt := 58) hx hb d_V_pair_53 (by decide) ?_
          refine lv_aload hx hb d_V_pair_58 (lv_at hl 2 rfl) ?_
          refine lv_aload hx hb d_V_pair_60 (lv_at hl 1 rfl) ?_
          refine z_callR (va_runS (As := [.ref a3, .ref a13]) (rest := []) ⟨hx, hb, hml, hown, hts⟩ (c_Couple_lengthOf l D dT _ a3 a13 (nI (vty v4)) (nI (cs v4).length) (nI (vty v14)) (nI (cs v14).length) (hh4.grew hN.2) (hh14.grew hN.2)) ⟨callB_of 2 hts (gI gd_up gd_c q386) rfl rfl rfl (ht _ q19) (ht _ q384) hd_Couple_lengthOf ⟨Nat.le_of_ble_eq_true rfl, Nat.le_of_ble_eq_true rfl⟩, ht _ q385⟩ (z_preS hK) rfl rfl hl.1 rfl (lv_room (Nat.le_of_ble_eq_true rfl)) d_V_pair_62 ⟨Nat.le_of_ble_eq_true rfl, Nat.le_of_ble_eq_true rfl⟩) (fun v26 hv25 => ?_)
          subst hv25
          rw [show (2 + nI (cs v4).length + nI (cs v14).length : Int32) = (nI (2 + (cs v4).length + (cs v14).length)) by rw [← nI_add, ← nI_add]; rfl]
          refine lv_sipush (v := 160) hx hb d_V_pair_65 (by decide) ?_
          refine lv_icmp_le (tgt := 74) hx hb d_V_pair_68 (by decide) (fun c27 => ?_) (fun c27 => ?_)
          · have nc27 : (2 + (cs v4).length + (cs v14).length) ≤ 160 := (nI_leI (a := (2 + (cs v4).length + (cs v14).length)) (b := 160) (by omega) (by omega)).mp c27
            refine lv_aload_n hx hb d_V_pair_74 rfl (lv_at hl 3 rfl) ?_
            refine lv_aload hx hb d_V_pair_75 (lv_at hl 0 rfl) ?_
            have hNs := hN.1
            refine z_callQ (va_runV (C := "ValueTrees") (As := [.ref ad24]) (rest := []) ⟨hx, hb, hml, hown, hts⟩ (c_V_numberOf l D dT _ Bq vv rg li ed tb tc RV (hC.up hN) hV ad24 18 (vty v4) (some (vty v14)) hro oad24 (fun h9 => absurd (hBs _ h9) (Nat.not_lt.mpr hgad24))) ⟨callB_of 1 hts (gI gd_up gd_c q189) rfl rfl rfl (ht _ q1) (ht _ q186) hd_V_numberOf ⟨Nat.le_of_ble_eq_true rfl, Nat.le_of_ble_eq_true rfl⟩, ht _ q188, ht _ qs5⟩ (z_preV hK (va_recv hK.1 (z_1 (hvv.grew hN.2)) (ci := 0) (q0 := 0) rfl rfl)) rfl rfl hl.1 rfl (lv_room (Nat.le_of_ble_eq_true rfl)) d_V_pair_77 ⟨(Nat.le_of_ble_eq_true rfl), (Nat.le_of_ble_eq_true rfl)⟩) hS (fun _ h9 => Or.inr (h9.imp (fun h => h) (fun h8 => h8.imp (fun h => h) (fun h7 => Nat.le_trans hNs h7)))) (fun v29 Hb locs hv28 hz30 hf31 hS => ?_)
            obtain ⟨rfl, hX⟩ := hv28
            obtain ⟨B2, ed2, he2, hB1, hB2, hC2⟩ := hX
            have hk2 := fun (q8 : Nat) (h9 : q8 < _) (h8 : ¬ Bq q8) => hf31 q8 h9 (fun h7 => h7.elim (fun e9 => h8 (by rw [e9]; exact hBl)) (fun h6 => h6.elim (fun e9 => h8 (by rw [e9]; exact hBe)) (fun h5 => absurd h9 (Nat.not_lt.mpr h5))))
            have hqa : rv D dT B2 Hb v4 a3 := rq_keep hk2 hB2 _ (rq_up hN.2 hq4)
            have hqb : rv D dT B2 Hb v14 a13 := rq_keep hk2 hB2 _ (rq_up hN.2 hq14)
            have hha := (rv_hd hw4 hqa).1
            have hhb := (rv_hd hw14 hqb).1
            have hNp := hN
            have hN : nU Hb Hb := nU.rf
            cases hn9 : (numT tb tc (mkR tb 18 (vty v4) (some (vty v14)))).1 with
            | none =>
              rw [show numA tb tc (mkR tb 18 (vty v4) (some (vty v14))) = -2 by unfold numA; rw [hn9]]
              refine W.eq (g2 := F0 m 80 ls [.int (-2)]) rfl ?_
              refine lv_istore (lv' := [(7, .int (-2)), (6, .ref ad24), (5, .ref a13), (4, .ref a3), (0, .ref vv), (1, .int r), (2, .int a), (3, .int b)]) hx hb d_V_pair_80 hl (by decide) rfl (fun ls hl => ?_)
              refine lv_iload hx hb d_V_pair_82 (lv_at hl 0 rfl) ?_
              refine lv_bipush (v := (-2)) hx hb d_V_pair_84 (by decide) ?_
              refine lv_icmp_ne (tgt := 94) hx hb d_V_pair_86 (by decide) (fun c32 => absurd c32 (by decide)) (fun _ => ?_)
              refine lv_bipush (v := (-2)) hx hb d_V_pair_89 (by decide) ?_
              refine lv_goto (tgt := 112) hx hb d_V_pair_91 (by decide) ?_
              exact z_iretQ hx hb hr hlocks d_V_pair_112 hS (Nat.le_of_ble_eq_true rfl) (Nat.le_of_ble_eq_true rfl) (by rw [pr_n hr5 hr15 ⟨hq18, hp9⟩ (by omega) hn9]; have hC3 := hC2; rw [num_none hn9] at hC3; exact ⟨rfl, cX.weak (n0 := _) ⟨B2, ed2, he2, hB1, hB2, hC3⟩ hNs⟩)
            | some t9 =>
              rw [show numA tb tc (mkR tb 18 (vty v4) (some (vty v14))) = nI t9 by unfold numA; rw [hn9]]
              obtain ⟨hn1, hn2, hn3, hn4, hn5⟩ := num_row hO hro hn9
              have hV2 : vOK (numT tb tc (mkR tb 18 (vty v4) (some (vty v14)))).2.1 (numT tb tc (mkR tb 18 (vty v4) (some (vty v14)))).2.2 RV := vOK_ext hV hn5 hn3 hn4
              have ht9c := hn5.1
              refine W.eq (g2 := F0 m 80 ls [.int (nI t9)]) rfl ?_
              refine lv_istore (lv' := [(7, .int (nI t9)), (6, .ref ad24), (5, .ref a13), (4, .ref a3), (0, .ref vv), (1, .int r), (2, .int a), (3, .int b)]) hx hb d_V_pair_80 hl (by decide) rfl (fun ls hl => ?_)
              refine lv_iload hx hb d_V_pair_82 (lv_at hl 0 rfl) ?_
              refine lv_bipush (v := (-2)) hx hb d_V_pair_84 (by decide) ?_
              refine lv_icmp_ne (tgt := 94) hx hb d_V_pair_86 (by decide) (fun c33 => ?_) (fun c33 => absurd c33 (fun h9 => absurd (show nI t9 < 0 by rw [h9]; decide) (nI_pos (by omega))))
              refine lv_aload_n hx hb d_V_pair_94 rfl (lv_at hl 4 rfl) ?_
              refine lv_iload_n hx hb d_V_pair_95 rfl (lv_at hl 5 rfl) ?_
              have hSp := hS
              refine z_newo (ci := 5) hx hb ht in_Couple ty_Couple tyk_Couple hown (ht _ q387) (ht _ q388) (ht _ q19) hK hS rfl fs_Couple (Nat.le_of_ble_eq_true rfl) (Nat.le_of_ble_eq_true rfl) d_V_pair_96 (fun ad34 H hqad34 hzad34 oad34 hoad34 hS => ?_)
              have hgad34 : s.heap.size ≤ ad34 := by rw [hqad34]; exact hSp.1
              have hAad34 : (fun q => q = rg ∨ q = li ∨ q = ed ∨ s.heap.size ≤ q) ad34 := (Or.inr (Or.inr (Or.inr hgad34)))
              have hgbad34 := Nat.le_trans hN.1 (Nat.le_of_eq hqad34.symm)
              have hN := hN.grew hzad34 hoad34
              refine lv_dup hx hb d_V_pair_99 rfl ?_
              refine lv_iload hx hb d_V_pair_100 (lv_at hl 0 rfl) ?_
              refine lv_aload hx hb d_V_pair_102 (lv_at hl 3 rfl) ?_
              refine lv_aload hx hb d_V_pair_104 (lv_at hl 2 rfl) ?_
              refine z_callQ (va_runI (As := [.int (nI t9), .ref a3, .ref a13]) (rest := [.ref ad34, .int r, .ref vv]) ⟨hx, hb, hml, hown, hts⟩ (c_Couple_init l D dT _ ad34 oad34 (nI t9) a3 a13 (nI (vty v4)) (nI (cs v4).length) (nI (vty v14)) (nI (cs v14).length) (hha.grew hN.2) (hhb.grew hN.2)) ⟨callB_of 3 hts (gI gd_up gd_c q391) rfl rfl rfl (ht _ q19) (ht _ q389) hd_Couple_init ⟨Nat.le_of_ble_eq_true rfl, Nat.le_of_ble_eq_true rfl⟩, rfl, ht _ q390⟩ (z_preS hK) rfl rfl hl.1 rfl (lv_room (Nat.le_of_ble_eq_true rfl)) d_V_pair_106 ⟨(Nat.le_of_ble_eq_true rfl), (Nat.le_of_ble_eq_true rfl)⟩) hS (fun q9 h9 => by rw [show q9 = ad34 from h9]; exact hAad34) (fun v36 H locs hv35 hz37 hf38 hS => ?_)
              obtain ⟨rfl, oad34⟩ := hv35
              have oad34 : va_at D cls (ad34, .inr (5, [.int (nI t9), .int (2 + (nI (cs v4).length) + (nI (cs v14).length)), .ref a3, .ref a13])) H := oad34
              have hN := hN.call hz37 hf38 (fun x hx h9 => by have h8 : x = ad34 := h9; omega)
              refine W.eq (g2 := F0 m 109 ls [.ref ad34, .int r, .ref vv]) rfl ?_
              have hlt9 : lt_ (numT tb tc (mkR tb 18 (vty v4) (some (vty v14)))).2.1 t9 = vty v4 := by unfold lt_; rw [hn2.2.1]; rfl
              have hrt9 : rt_ (numT tb tc (mkR tb 18 (vty v4) (some (vty v14)))).2.1 t9 = vty v14 := by unfold rt_; rw [hn2.2.2]; rfl
              have hwx : wty (numT tb tc (mkR tb 18 (vty v4) (some (vty v14)))).2.1 (.pow (.add v4 v14) t9) 0 t9 := ⟨rfl, rfl, Or.inl ⟨rfl, hn2.1⟩, by rw [hlt9]; exact wty_ext hO hn3 _ 0 _ ht4 hw4, by rw [hrt9]; exact wty_ext hO hn3 _ 0 _ ht14 hw14⟩
              have hrx : rv D dT B2 H (.pow (.add v4 v14) t9) ad34 := rv_add.mpr ⟨a3, a13, by rw [wl_add]; exact oad34, fun h9 => absurd (hC2.1.1 _ h9) (Nat.not_lt.mpr hgbad34), rq_up hN.2 hqa, rq_up hN.2 hqb⟩
              refine z_callQ (va_runV (C := "ValueTrees") (As := [.int r, .ref ad34]) (rest := []) ⟨hx, hb, hml, hown, hts⟩ (c_V_keep_r l D dT _ B2 vv rg li ed2 (numT tb tc (mkR tb 18 (vty v4) (some (vty v14)))).2.1 (numT tb tc (mkR tb 18 (vty v4) (some (vty v14)))).2.2 RV (hC2.up hN) hV2 r (.pow (.add v4 v14) t9) t9 ad34 hwx hrx (by rw [l_add]; omega)) ⟨callB_of 2 hts (gI gd_up gd_c q264) rfl rfl rfl (ht _ q1) (ht _ q261) hd_V_keep ⟨Nat.le_of_ble_eq_true rfl, Nat.le_of_ble_eq_true rfl⟩, ht _ q263, ht _ qs6⟩ (z_preV hK (va_recv hK.1 (z_1 (hC2.2.1.grew hN.2)) (ci := 0) (q0 := 0) rfl rfl)) rfl rfl hl.1 rfl (lv_room (Nat.le_of_ble_eq_true rfl)) d_V_pair_109 ⟨(Nat.le_of_ble_eq_true rfl), (Nat.le_of_ble_eq_true rfl)⟩) hS (fun _ h9 => Or.inl h9) (fun v40 H locs hv39 hz41 hf42 hS => ?_)
              obtain ⟨rfl, hC⟩ := hv39
              refine W.eq (g2 := F0 m 112 ls [.int ((kp RV r (some (.pow (.add v4 v14) t9))).1)]) rfl ?_
              exact z_iretQ hx hb hr hlocks d_V_pair_112 hS (Nat.le_of_ble_eq_true rfl) (Nat.le_of_ble_eq_true rfl) (by rw [pr_s hr5 hr15 ⟨hq18, hp9⟩ (by omega) hn9]; exact ⟨rfl, cX.weak (n0 := _) ⟨B2, ed2, he2, hB1, hB2, hC⟩ hNs⟩)
          · have nc27 : ¬ (2 + (cs v4).length + (cs v14).length) ≤ 160 := fun h9 => c27 ((nI_leI (a := (2 + (cs v4).length + (cs v14).length)) (b := 160) (by omega) (by omega)).mpr h9)
            refine lv_bipush (v := (-2)) hx hb d_V_pair_71 (by decide) ?_
            exact z_iretQ hx hb hr hlocks d_V_pair_73 hS (Nat.le_of_ble_eq_true rfl) (Nat.le_of_ble_eq_true rfl) (by rw [pr_l hr5 hr15 ⟨hq18, hp9⟩ (by omega)]; exact ⟨rfl, cX.rf (hC.up hN)⟩)
      · rw [if_neg hq18] at hv16
        subst hv16
        refine lv_if_ne (tgt := 33) hx hb d_V_pair_28 (by decide) (fun c43 => absurd c43 (by decide)) (fun _ => ?_)
        refine lv_iconst (v := (-1)) hx hb d_V_pair_31 (by decide) ?_
        exact z_iretQ hx hb hr hlocks d_V_pair_32 hS (Nat.le_of_ble_eq_true rfl) (Nat.le_of_ble_eq_true rfl) (by rw [pr_r hr5 hr15 (fun h9 => hq18 h9.1)]; exact ⟨rfl, cX.rf (hC.up hN)⟩)
