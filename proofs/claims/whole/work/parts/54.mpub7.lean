theorem w11_cases {tb : Nat → TR} {c : VT} {t : Nat} (h : wty tb c 1 t) (hw : tW (tb t) = 11) : (∃ k, c = .intCast k) ∨ ∃ x y, c = .mul x y ∧ wty tb x 0 (lt_ tb t) ∧ wty tb y 1 t := by
  obtain ⟨c9, e, -, -, h9⟩ := list_of (tb := tb) (v := .pow c t) ⟨rfl, rfl, h⟩ hw
  cases e
  exact h9
abbrev b_M_many : ByteArray := prog_12_method_58_code
abbrev y_M_many : MethodName := ⟨"ValueTreesModel", "many", "(I)I"⟩
abbrev w_M_many : List Cond := .code y_M_many b_M_many 5 (Option.some .int) :: gt
theorem hd_M_many : (y_M_many).cls ≠ "java/lang/invoke/MethodHandle" ∧ (y_M_many).cls ≠ "java/lang/invoke/VarHandle" ∧ (parseMethodDescriptor (y_M_many).desc).map (fun d => d.parameters.length) = some 1 := by decide +kernel
theorem d_M_many_0 : decode b_M_many 0 = .ok (.aload_n 0, 1) := by decide +kernel
theorem d_M_many_1 : decode b_M_many 1 = .ok (.iload_n 1, 1) := by decide +kernel
theorem d_M_many_2 : decode b_M_many 2 = .ok (.invokevirtual 124, 3) := by decide +kernel
theorem d_M_many_5 : decode b_M_many 5 = .ok (.istore_n 2, 1) := by decide +kernel
theorem d_M_many_6 : decode b_M_many 6 = .ok (.iload_n 2, 1) := by decide +kernel
theorem d_M_many_7 : decode b_M_many 7 = .ok (.invokestatic 174, 3) := by decide +kernel
theorem d_M_many_10 : decode b_M_many 10 = .ok (.ifCond .eq 12, 3) := by decide +kernel
theorem d_M_many_13 : decode b_M_many 13 = .ok (.aload_n 0, 1) := by decide +kernel
theorem d_M_many_14 : decode b_M_many 14 = .ok (.getfield 26, 3) := by decide +kernel
theorem d_M_many_17 : decode b_M_many 17 = .ok (.iload_n 1, 1) := by decide +kernel
theorem d_M_many_18 : decode b_M_many 18 = .ok (.iaload, 1) := by decide +kernel
theorem d_M_many_19 : decode b_M_many 19 = .ok (.iconst 5, 1) := by decide +kernel
theorem d_M_many_20 : decode b_M_many 20 = .ok (.isub, 1) := by decide +kernel
theorem d_M_many_21 : decode b_M_many 21 = .ok (.ireturn, 1) := by decide +kernel
theorem d_M_many_22 : decode b_M_many 22 = .ok (.iload_n 2, 1) := by decide +kernel
theorem d_M_many_23 : decode b_M_many 23 = .ok (.bipush 11, 2) := by decide +kernel
theorem d_M_many_25 : decode b_M_many 25 = .ok (.if_icmp .eq 12, 3) := by decide +kernel
theorem d_M_many_28 : decode b_M_many 28 = .ok (.iload_n 2, 1) := by decide +kernel
theorem d_M_many_29 : decode b_M_many 29 = .ok (.invokestatic 136, 3) := by decide +kernel
theorem d_M_many_32 : decode b_M_many 32 = .ok (.ifCond .ne 5, 3) := by decide +kernel
theorem d_M_many_35 : decode b_M_many 35 = .ok (.iconst (-1), 1) := by decide +kernel
theorem d_M_many_36 : decode b_M_many 36 = .ok (.ireturn, 1) := by decide +kernel
theorem d_M_many_37 : decode b_M_many 37 = .ok (.iconst 0, 1) := by decide +kernel
theorem d_M_many_38 : decode b_M_many 38 = .ok (.istore_n 3, 1) := by decide +kernel
theorem d_M_many_39 : decode b_M_many 39 = .ok (.iload_n 1, 1) := by decide +kernel
theorem d_M_many_40 : decode b_M_many 40 = .ok (.invokestatic 112, 3) := by decide +kernel
theorem d_M_many_43 : decode b_M_many 43 = .ok (.iconst 5, 1) := by decide +kernel
theorem d_M_many_44 : decode b_M_many 44 = .ok (.iadd, 1) := by decide +kernel
theorem d_M_many_45 : decode b_M_many 45 = .ok (.istore 4, 2) := by decide +kernel
theorem d_M_many_47 : decode b_M_many 47 = .ok (.iload 4, 2) := by decide +kernel
theorem d_M_many_49 : decode b_M_many 49 = .ok (.iload_n 1, 1) := by decide +kernel
theorem d_M_many_50 : decode b_M_many 50 = .ok (.invokestatic 112, 3) := by decide +kernel
theorem d_M_many_53 : decode b_M_many 53 = .ok (.aload_n 0, 1) := by decide +kernel
theorem d_M_many_54 : decode b_M_many 54 = .ok (.getfield 26, 3) := by decide +kernel
theorem d_M_many_57 : decode b_M_many 57 = .ok (.iload_n 1, 1) := by decide +kernel
theorem d_M_many_58 : decode b_M_many 58 = .ok (.iaload, 1) := by decide +kernel
theorem d_M_many_59 : decode b_M_many 59 = .ok (.iadd, 1) := by decide +kernel
theorem d_M_many_60 : decode b_M_many 60 = .ok (.if_icmp .ge 49, 3) := by decide +kernel
theorem d_M_many_63 : decode b_M_many 63 = .ok (.iload_n 2, 1) := by decide +kernel
theorem d_M_many_64 : decode b_M_many 64 = .ok (.bipush 11, 2) := by decide +kernel
theorem d_M_many_66 : decode b_M_many 66 = .ok (.if_icmp .ne 23, 3) := by decide +kernel
theorem d_M_many_69 : decode b_M_many 69 = .ok (.aload_n 0, 1) := by decide +kernel
theorem d_M_many_70 : decode b_M_many 70 = .ok (.aload_n 0, 1) := by decide +kernel
theorem d_M_many_71 : decode b_M_many 71 = .ok (.getfield 13, 3) := by decide +kernel
theorem d_M_many_74 : decode b_M_many 74 = .ok (.aload_n 0, 1) := by decide +kernel
theorem d_M_many_75 : decode b_M_many 75 = .ok (.getfield 19, 3) := by decide +kernel
theorem d_M_many_78 : decode b_M_many 78 = .ok (.iload_n 1, 1) := by decide +kernel
theorem d_M_many_79 : decode b_M_many 79 = .ok (.iaload, 1) := by decide +kernel
theorem d_M_many_80 : decode b_M_many 80 = .ok (.iaload, 1) := by decide +kernel
theorem d_M_many_81 : decode b_M_many 81 = .ok (.iload 4, 2) := by decide +kernel
theorem d_M_many_83 : decode b_M_many 83 = .ok (.invokevirtual 78, 3) := by decide +kernel
theorem d_M_many_86 : decode b_M_many 86 = .ok (.goto 15, 3) := by decide +kernel
theorem d_M_many_89 : decode b_M_many 89 = .ok (.aload_n 0, 1) := by decide +kernel
theorem d_M_many_90 : decode b_M_many 90 = .ok (.aload_n 0, 1) := by decide +kernel
theorem d_M_many_91 : decode b_M_many 91 = .ok (.getfield 19, 3) := by decide +kernel
theorem d_M_many_94 : decode b_M_many 94 = .ok (.iload_n 1, 1) := by decide +kernel
theorem d_M_many_95 : decode b_M_many 95 = .ok (.iaload, 1) := by decide +kernel
theorem d_M_many_96 : decode b_M_many 96 = .ok (.iload 4, 2) := by decide +kernel
theorem d_M_many_98 : decode b_M_many 98 = .ok (.invokevirtual 152, 3) := by decide +kernel
theorem d_M_many_101 : decode b_M_many 101 = .ok (.istore 4, 2) := by decide +kernel
theorem d_M_many_103 : decode b_M_many 103 = .ok (.iinc 3 1, 3) := by decide +kernel
theorem d_M_many_106 : decode b_M_many 106 = .ok (.goto (-59), 3) := by decide +kernel
theorem d_M_many_109 : decode b_M_many 109 = .ok (.iload_n 3, 1) := by decide +kernel
theorem d_M_many_110 : decode b_M_many 110 = .ok (.ireturn, 1) := by decide +kernel
set_option maxHeartbeats 4000000 in
set_option maxRecDepth 100000 in
theorem p_M_many (l : Launch) (D : va_G) (dT : Nat → ClassId) (H : Heap) (mm : Nat → Nat) (tb : Nat → TR) (tc : Nat) (RV : Nat → Option VT) (hI : mI D dT mm tb tc RV H) (r : Int32) : Met l y_M_many w_M_many ({ frames := 210, cells := 0, slots := 0, locals := 5400 }) (z_P D dT [.ref (mm 0), .int r] H) (z_R (fun v => v = .int (a_many RV r))) 0 0 (fun _ => False) := by
  obtain ⟨wd, lf, rt, ty, F, sz, Wk, wz, dg, dc, sh, hM, hO, hT, hR, hWk⟩ := hI
  have hF := hR.1
  have htc := hO.1
  have htc10 := hO.2.1
  refine Met.ofW (cc := b_M_many) (maxL := 5) (ret := (Option.some .int)) (by decide) rfl ?_
  intro p e s m args below meth c s₁ B hml hv
  obtain ⟨rfl, rfl, hK⟩ := hv
  have hx := B.exec
  have hb := B.bytes
  have hr := B.returns
  have hts := atoms_spec (ws := w_M_many) B.pre
  have ht : ∀ w9 ∈ gt, w9.before [.ref (mm 0), .int r].toArray s = true := fun w9 h => hts w9 (List.mem_cons_of_mem _ h)
  have hown : s.vm.findClass "ValueTreesModel" = some m.cls := findClass_of_methodNamed B.named
  have hlocks := B.notSynchronized
  have hl := lv_entry ([.ref (mm 0), .int r]) (n := 5) (Nat.le_of_ble_eq_true rfl)
  rw [lg_entry_eq]
  generalize (lg_sl ([.ref (mm 0), .int r]) ++ List.replicate (5 - (lg_sl ([.ref (mm 0), .int r])).length) Slot.unset).toArray = ls at hl ⊢
  have hl : lv_has ls 5 [(0, .ref (mm 0)), (1, .int r)] := hl
  refine lv_aload_n hx hb d_M_many_0 rfl (lv_at hl 0 rfl) ?_
  refine lv_iload_n hx hb d_M_many_1 rfl (lv_at hl 1 rfl) ?_
  refine z_callR (va_runV (C := "ValueTreesModel") (As := [.int r]) (rest := []) ⟨hx, hb, hml, hown, hts⟩ (c_M_wordOf l D dT _ mm wd lf rt tc ty F sz Wk wz dg dc sh hM tb hO hT RV hR r) ⟨callB_of 1 hts (gI gd_up gd_c q658) rfl rfl rfl (ht _ q10) (ht _ q655) hd_M_wordOf ⟨Nat.le_of_ble_eq_true rfl, Nat.le_of_ble_eq_true rfl⟩, ht _ q657, ht _ qs26⟩ (z_preV hK (va_recv hK.1 hM.1 (ci := 10) (q0 := 0) rfl rfl)) rfl rfl hl.1 rfl (lv_room (Nat.le_of_ble_eq_true rfl)) d_M_many_2 ⟨Nat.zero_le _, Nat.zero_le _⟩) (fun v2 hv1 => ?_)
  have hv1 : v2 = .int (match rgs RV r with | none => -1 | some v => nI (tW (tb (vty v)))) := hv1
  cases hr3 : rgs RV r with
  | none =>
    rw [hr3] at hv1
    subst hv1
    try dsimp only
    refine W.eq (g2 := F0 m 5 ls [.int (-1)]) rfl ?_
    refine lv_istore_n (lv' := [(2, .int (-1)), (0, .ref (mm 0)), (1, .int r)]) hx hb d_M_many_5 rfl hl (by decide) rfl (fun ls hl => ?_)
    refine lv_iload_n hx hb d_M_many_6 rfl (lv_at hl 0 rfl) ?_
    refine z_callR (va_runS (As := [.int (-1)]) (rest := []) ⟨hx, hb, hml, hown, hts⟩ (c_M_isRow l D dT _ (-1)) ⟨callB_of 1 hts (gI gd_up gd_c q750) rfl rfl rfl (ht _ q10) (ht _ q748) hd_M_isRow ⟨Nat.le_of_ble_eq_true rfl, Nat.le_of_ble_eq_true rfl⟩, ht _ q749⟩ (z_preS hK) rfl rfl hl.1 rfl (lv_room (Nat.le_of_ble_eq_true rfl)) d_M_many_7 ⟨Nat.zero_le _, Nat.zero_le _⟩) (fun v7 hv6 => ?_)
    have hv6 : v7 = .int (if isRw (-1) then 1 else 0) := hv6
    rw [if_neg (by decide)] at hv6
    subst hv6
    refine lv_if_eq (tgt := 22) hx hb d_M_many_10 (by decide) (fun _ => ?_) (fun c9 => absurd c9 (by decide))
    refine lv_iload_n hx hb d_M_many_22 rfl (lv_at hl 0 rfl) ?_
    refine lv_bipush (v := 11) hx hb d_M_many_23 (by decide) ?_
    refine lv_icmp_eq (tgt := 37) hx hb d_M_many_25 (by decide) (fun c10 => absurd c10 (by decide)) (fun _ => ?_)
    refine lv_iload_n hx hb d_M_many_28 rfl (lv_at hl 0 rfl) ?_
    refine z_callR (va_runS (As := [.int (-1)]) (rest := []) ⟨hx, hb, hml, hown, hts⟩ (c_M_isTree l D dT _ (-1)) ⟨callB_of 1 hts (gI gd_up gd_c q699) rfl rfl rfl (ht _ q10) (ht _ q697) hd_M_isTree ⟨Nat.le_of_ble_eq_true rfl, Nat.le_of_ble_eq_true rfl⟩, ht _ q698⟩ (z_preS hK) rfl rfl hl.1 rfl (lv_room (Nat.le_of_ble_eq_true rfl)) d_M_many_29 ⟨Nat.zero_le _, Nat.zero_le _⟩) (fun v12 hv11 => ?_)
    have hv11 : v12 = .int (if isTr (-1) then 1 else 0) := hv11
    rw [if_neg (by decide)] at hv11
    subst hv11
    refine lv_if_ne (tgt := 37) hx hb d_M_many_32 (by decide) (fun c14 => absurd c14 (by decide)) (fun _ => ?_)
    refine lv_iconst (v := (-1)) hx hb d_M_many_35 (by decide) ?_
    exact z_iretR hx hb hr hlocks d_M_many_36 (by unfold a_many; rw [hr3])
  | some v4 =>
    rw [hr3] at hv1
    subst hv1
    refine W.eq (g2 := F0 m 5 ls [.int (nI (tW (tb (vty v4))))]) rfl ?_
    obtain ⟨j5, hj5, rfl, hV4⟩ := rgs_some hr3
    obtain ⟨ht4, et4, hw4, es4, hn4, hf4⟩ := mR_some hR hj5 hV4
    refine lv_istore_n (lv' := [(2, .int (nI (tW (tb (vty v4))))), (0, .ref (mm 0)), (1, .int (nI j5))]) hx hb d_M_many_5 rfl hl (by decide) rfl (fun ls hl => ?_)
    have hrr := hr3
    have hwl := (hO.2.2 _ ht4).1
    have hpw := (hO.2.2 _ ht4).2.2.2.2.2.2.2.2.1
    obtain ⟨c9, ec9, hc9⟩ := wty_pow hw4
    have hfz := hf4
    have hlz := hn4
    rw [ec9] at hfz hlz
    cases c9 with
    | num z =>
      have hword : tW (tb (vty v4)) = 2 ∨ tW (tb (vty v4)) = 3 ∨ tW (tb (vty v4)) = 4 ∨ tW (tb (vty v4)) = 8 := hc9.2.1
      refine lv_iload_n hx hb d_M_many_6 rfl (lv_at hl 0 rfl) ?_
      refine z_callR (va_runS (As := [.int (nI (tW (tb (vty v4))))]) (rest := []) ⟨hx, hb, hml, hown, hts⟩ (c_M_isRow l D dT _ (nI (tW (tb (vty v4))))) ⟨callB_of 1 hts (gI gd_up gd_c q750) rfl rfl rfl (ht _ q10) (ht _ q748) hd_M_isRow ⟨Nat.le_of_ble_eq_true rfl, Nat.le_of_ble_eq_true rfl⟩, ht _ q749⟩ (z_preS hK) rfl rfl hl.1 rfl (lv_room (Nat.le_of_ble_eq_true rfl)) d_M_many_7 ⟨Nat.zero_le _, Nat.zero_le _⟩) (fun v16 hv15 => ?_)
      have hv15 : v16 = .int (if isRw (nI (tW (tb (vty v4)))) then 1 else 0) := hv15
      rw [if_neg (fun h9 => absurd ((isRw_nI (by omega)).mp h9) (by omega))] at hv15
      subst hv15
      refine lv_if_eq (tgt := 22) hx hb d_M_many_10 (by decide) (fun _ => ?_) (fun c18 => absurd c18 (by decide))
      refine lv_iload_n hx hb d_M_many_22 rfl (lv_at hl 0 rfl) ?_
      refine lv_bipush (v := 11) hx hb d_M_many_23 (by decide) ?_
      refine lv_icmp_eq (tgt := 37) hx hb d_M_many_25 (by decide) (fun c19 => absurd ((nI_eq (a := (tW (tb (vty v4)))) (b := 11) (by omega) (by omega)).mp c19) (by omega)) (fun c19 => ?_)
      refine lv_iload_n hx hb d_M_many_28 rfl (lv_at hl 0 rfl) ?_
      refine z_callR (va_runS (As := [.int (nI (tW (tb (vty v4))))]) (rest := []) ⟨hx, hb, hml, hown, hts⟩ (c_M_isTree l D dT _ (nI (tW (tb (vty v4))))) ⟨callB_of 1 hts (gI gd_up gd_c q699) rfl rfl rfl (ht _ q10) (ht _ q697) hd_M_isTree ⟨Nat.le_of_ble_eq_true rfl, Nat.le_of_ble_eq_true rfl⟩, ht _ q698⟩ (z_preS hK) rfl rfl hl.1 rfl (lv_room (Nat.le_of_ble_eq_true rfl)) d_M_many_29 ⟨Nat.zero_le _, Nat.zero_le _⟩) (fun v21 hv20 => ?_)
      have hv20 : v21 = .int (if isTr (nI (tW (tb (vty v4)))) then 1 else 0) := hv20
      rw [if_neg (fun h9 => absurd ((isTr_nI (by omega)).mp h9) (by omega))] at hv20
      subst hv20
      refine lv_if_ne (tgt := 37) hx hb d_M_many_32 (by decide) (fun c23 => absurd c23 (by decide)) (fun _ => ?_)
      refine lv_iconst (v := (-1)) hx hb d_M_many_35 (by decide) ?_
      refine z_iretR hx hb hr hlocks d_M_many_36 ?_
      unfold a_many; rw [hrr, ec9]
      try rfl
    | natCast k =>
      have hword : tW (tb (vty v4)) = 5 ∨ tW (tb (vty v4)) = 6 := hc9.2.1
      have hk8 : k % 16 ≤ 8 := hc9.2.2.1
      rw [f_row] at hfz
      rw [l_row] at hlz
      have hlx : (cs v4).length = 5 + k % 16 := by rw [ec9, l_row]
      refine lv_iload_n hx hb d_M_many_6 rfl (lv_at hl 0 rfl) ?_
      refine z_callR (va_runS (As := [.int (nI (tW (tb (vty v4))))]) (rest := []) ⟨hx, hb, hml, hown, hts⟩ (c_M_isRow l D dT _ (nI (tW (tb (vty v4))))) ⟨callB_of 1 hts (gI gd_up gd_c q750) rfl rfl rfl (ht _ q10) (ht _ q748) hd_M_isRow ⟨Nat.le_of_ble_eq_true rfl, Nat.le_of_ble_eq_true rfl⟩, ht _ q749⟩ (z_preS hK) rfl rfl hl.1 rfl (lv_room (Nat.le_of_ble_eq_true rfl)) d_M_many_7 ⟨Nat.zero_le _, Nat.zero_le _⟩) (fun v25 hv24 => ?_)
      have hv24 : v25 = .int (if isRw (nI (tW (tb (vty v4)))) then 1 else 0) := hv24
      rw [if_pos ((isRw_nI (by omega)).mpr (by omega))] at hv24
      subst hv24
      refine lv_if_eq (tgt := 22) hx hb d_M_many_10 (by decide) (fun c27 => absurd c27 (by decide)) (fun _ => ?_)
      refine lv_aload_n hx hb d_M_many_13 rfl (lv_at hl 1 rfl) ?_
      refine va_get (D := D) (ci := 10) (v := .ref (mm 6)) (C := "ValueTreesModel") (T := T_M) (N := 12) hx hb ht in_M hown hK.1 hM.1 0 rfl rfl 6 (by decide) (ht _ q545) (fun _ h9 => h9) rfl d_M_many_14 ?_
      refine lv_iload_n hx hb d_M_many_17 rfl (lv_at hl 2 rfl) ?_
      refine z_iald hx hb hK (hM.1 6 _ rfl) j5 rfl (by omega) (by decide) d_M_many_18 ?_
      rw [es4]
      refine lv_iconst (v := 5) hx hb d_M_many_19 (by decide) ?_
      refine lv_isub hx hb d_M_many_20 ?_
      rw [show (((nI (cs v4).length) - 5) : Int32) = nI (((cs v4).length) - 5) from pk_sub (a := ((cs v4).length)) (b := 5) (by omega)]
      refine z_iretR hx hb hr hlocks d_M_many_21 ?_
      rw [show a_many RV (nI j5) = mny (.natCast k) from by unfold a_many; rw [hrr, ec9]; try rfl]
      show _ = Value.int (nI (k % 16))
      rw [hlx, Nat.add_sub_cancel_left]
    | intCast k =>
      have hword : tW (tb (vty v4)) = 11 := by simp only [wty] at hc9; omega
      have hl5 : (cs v4).length = 5 := by rw [ec9, l_nil]
      obtain ⟨hLk, hltk, hlpk⟩ := tl_some hO ht4 (by omega)
      have elk : lf (vty v4) = nI (lt_ tb (vty v4)) := by rw [(hT _ ht4).2.1, hLk]; rfl
      have hpk := (hO.2.2 _ (show lt_ tb (vty v4) < tc by omega)).2.2.2.2.2.2.2.2.1
      have hcw : wty tb (.intCast k) 1 (vty v4) := hc9
      have hlc : (cs v4).length = 5 + (cs (.intCast k)).length := by rw [ec9, l_nil]; rfl
      have hfc : fAt F (160 * j5 + 5) (cs (.intCast k)) := fun q hq => absurd hq (Nat.not_lt_zero q)
      refine lv_iload_n hx hb d_M_many_6 rfl (lv_at hl 0 rfl) ?_
      refine z_callR (va_runS (As := [.int (nI (tW (tb (vty v4))))]) (rest := []) ⟨hx, hb, hml, hown, hts⟩ (c_M_isRow l D dT _ (nI (tW (tb (vty v4))))) ⟨callB_of 1 hts (gI gd_up gd_c q750) rfl rfl rfl (ht _ q10) (ht _ q748) hd_M_isRow ⟨Nat.le_of_ble_eq_true rfl, Nat.le_of_ble_eq_true rfl⟩, ht _ q749⟩ (z_preS hK) rfl rfl hl.1 rfl (lv_room (Nat.le_of_ble_eq_true rfl)) d_M_many_7 ⟨Nat.zero_le _, Nat.zero_le _⟩) (fun v29 hv28 => ?_)
      have hv28 : v29 = .int (if isRw (nI (tW (tb (vty v4)))) then 1 else 0) := hv28
      rw [if_neg (fun h9 => absurd ((isRw_nI (by omega)).mp h9) (by omega))] at hv28
      subst hv28
      refine lv_if_eq (tgt := 22) hx hb d_M_many_10 (by decide) (fun _ => ?_) (fun c31 => absurd c31 (by decide))
      refine lv_iload_n hx hb d_M_many_22 rfl (lv_at hl 0 rfl) ?_
      refine lv_bipush (v := 11) hx hb d_M_many_23 (by decide) ?_
      refine lv_icmp_eq (tgt := 37) hx hb d_M_many_25 (by decide) (fun c32 => ?_) (fun c32 => absurd ((nI_eq (a := (tW (tb (vty v4)))) (b := 11) (by omega) (by omega)).mpr (by omega)) c32)
      refine lv_iconst (v := 0) hx hb d_M_many_37 (by decide) ?_
      refine lv_istore_n (lv' := [(3, .int 0), (2, .int (nI (tW (tb (vty v4))))), (0, .ref (mm 0)), (1, .int (nI j5))]) hx hb d_M_many_38 rfl hl (by decide) rfl (fun ls hl => ?_)
      refine lv_iload_n hx hb d_M_many_39 rfl (lv_at hl 3 rfl) ?_
      refine z_callR (va_runS (As := [.int (nI j5)]) (rest := []) ⟨hx, hb, hml, hown, hts⟩ (c_M_base l D dT _ (nI j5)) ⟨callB_of 1 hts (gI gd_up gd_c q650) rfl rfl rfl (ht _ q10) (ht _ q648) hd_M_base ⟨Nat.le_of_ble_eq_true rfl, Nat.le_of_ble_eq_true rfl⟩, ht _ q649⟩ (z_preS hK) rfl rfl hl.1 rfl (lv_room (Nat.le_of_ble_eq_true rfl)) d_M_many_40 ⟨Nat.zero_le _, Nat.zero_le _⟩) (fun v34 hv33 => ?_)
      subst hv33
      rw [show (160 * nI j5 : Int32) = nI (160 * j5) from pk_mul 160 j5]
      refine lv_iconst (v := 5) hx hb d_M_many_43 (by decide) ?_
      refine lv_iadd hx hb d_M_many_44 ?_
      rw [show (((nI (160 * j5)) + 5) : Int32) = nI ((160 * j5) + 5) from nI_add (160 * j5) 5]
      refine lv_istore (lv' := [(4, .int (nI ((160 * j5) + 5))), (3, .int 0), (2, .int (nI (tW (tb (vty v4))))), (0, .ref (mm 0)), (1, .int (nI j5))]) hx hb d_M_many_45 hl (by decide) rfl (fun ls hl => ?_)
      have loop35 : ∀ (n479 : Nat) (rem : VT) (q : Nat) (m9 : Nat), (wty tb rem 1 (vty v4)) → (q + (cs rem).length = (cs (.intCast k)).length) → (fAt F (160 * j5 + 5 + q) (cs rem)) → (clen (.intCast k) = m9 + clen rem) → (cs rem).length < n479 → ∀ (ls : Array Slot), lv_has ls 5 [(4, .int (nI (160 * j5 + 5 + q))), (3, .int (nI m9)), (2, .int (nI (tW (tb (vty v4))))), (0, .ref (mm 0)), (1, .int (nI j5))] → W p l e (headSpec w_M_many ({ frames := 210, cells := 0, slots := 0, locals := 5400 })).room s m [.ref (mm 0), .int (nI j5)].toArray below meth c s.heap [] 0 0 (MQ below (z_R (fun v => v = .int (a_many RV (nI j5)))) [.ref (mm 0), .int (nI j5)].toArray s 0 0 (fun _ => False)) (F0 m 47 ls []) := by
        intro n479
        induction n479 with
        | zero =>
          intro rem q m9 hrem hq hfr hcl h479
          exact absurd h479 (Nat.not_lt_zero _)
        | succ n479 ih47 =>
          intro rem q m9 hrem hq hfr hcl h479  ls hl
          refine lv_iload hx hb d_M_many_47 (lv_at hl 0 rfl) ?_
          refine lv_iload_n hx hb d_M_many_49 rfl (lv_at hl 4 rfl) ?_
          refine z_callR (va_runS (As := [.int (nI j5)]) (rest := [.int (nI (160 * j5 + 5 + q))]) ⟨hx, hb, hml, hown, hts⟩ (c_M_base l D dT _ (nI j5)) ⟨callB_of 1 hts (gI gd_up gd_c q650) rfl rfl rfl (ht _ q10) (ht _ q648) hd_M_base ⟨Nat.le_of_ble_eq_true rfl, Nat.le_of_ble_eq_true rfl⟩, ht _ q649⟩ (z_preS hK) rfl rfl hl.1 rfl (lv_room (Nat.le_of_ble_eq_true rfl)) d_M_many_50 ⟨Nat.zero_le _, Nat.zero_le _⟩) (fun v37 hv36 => ?_)
          subst hv36
          rw [show (160 * nI j5 : Int32) = nI (160 * j5) from pk_mul 160 j5]
          refine lv_aload_n hx hb d_M_many_53 rfl (lv_at hl 3 rfl) ?_
          refine va_get (D := D) (ci := 10) (v := .ref (mm 6)) (C := "ValueTreesModel") (T := T_M) (N := 12) hx hb ht in_M hown hK.1 hM.1 0 rfl rfl 6 (by decide) (ht _ q545) (fun _ h9 => h9) rfl d_M_many_54 ?_
          refine lv_iload_n hx hb d_M_many_57 rfl (lv_at hl 4 rfl) ?_
          refine z_iald hx hb hK (hM.1 6 _ rfl) j5 rfl (by omega) (by decide) d_M_many_58 ?_
          rw [es4]
          refine lv_iadd hx hb d_M_many_59 ?_
          rw [show (((nI (160 * j5)) + (nI (cs v4).length)) : Int32) = nI ((160 * j5) + ((cs v4).length)) from nI_add (160 * j5) ((cs v4).length)]
          refine lv_icmp_ge (tgt := 109) hx hb d_M_many_60 (by decide) (fun c38 => ?_) (fun c38 => ?_)
          · have nc38 : ((160 * j5) + ((cs v4).length)) ≤ (160 * j5 + 5 + q) := (nI_leI (a := ((160 * j5) + ((cs v4).length))) (b := (160 * j5 + 5 + q)) (by omega) (by omega)).mp c38
            refine lv_iload_n hx hb d_M_many_109 rfl (lv_at hl 1 rfl) ?_
            refine z_iretR hx hb hr hlocks d_M_many_110 ?_
            have hz9 : clen rem = 0 := by
              obtain ⟨z9, rfl⟩ | ⟨x9, y9, rfl, hx9w, hy9w⟩ := w11_cases hrem hword
              · rfl
              · exfalso; have := cs_ge hx9w; have h8 : (cs (.mul x9 y9)).length = (cs x9).length + (cs y9).length := (by rw [cs_mul, eb_pow hx9w, List.length_append]); omega
            rw [show a_many RV (nI j5) = mny (.intCast k) from by unfold a_many; rw [hrr, ec9]; try rfl]
            show Value.int (nI m9) = Value.int (nI (clen (.intCast k)))
            rw [show clen (.intCast k) = m9 by omega]
          · have nc38 : ¬ ((160 * j5) + ((cs v4).length)) ≤ (160 * j5 + 5 + q) := fun h9 => c38 ((nI_leI (a := ((160 * j5) + ((cs v4).length))) (b := (160 * j5 + 5 + q)) (by omega) (by omega)).mpr h9)
            obtain ⟨z9, rfl⟩ | ⟨x9, y9, rfl, hx9w, hy9w⟩ := w11_cases hrem hword
            · exact absurd hq (by show ¬ q + 0 = _; omega)
            have hge9 := cs_ge hx9w
            have hcm9 : cs (.mul x9 y9) = cs x9 ++ cs y9 := by rw [cs_mul, eb_pow hx9w]
            have hlm : (cs (.mul x9 y9)).length = (cs x9).length + (cs y9).length := by rw [hcm9, List.length_append]
            have hfe : fAt F (160 * j5 + 5 + q) (cs x9) ∧ fAt F (160 * j5 + 5 + q + (cs x9).length) (cs y9) := by have h8 := hfr; rw [hcm9, fAt_app] at h8; exact h8
            refine lv_iload_n hx hb d_M_many_63 rfl (lv_at hl 2 rfl) ?_
            refine lv_bipush (v := 11) hx hb d_M_many_64 (by decide) ?_
            refine lv_icmp_ne (tgt := 89) hx hb d_M_many_66 (by decide) (fun c39 => absurd ((nI_eq (a := (tW (tb (vty v4)))) (b := 11) (by omega) (by omega)).mpr (by omega)) c39) (fun c39 => ?_)
            refine lv_aload_n hx hb d_M_many_69 rfl (lv_at hl 3 rfl) ?_
            refine lv_aload_n hx hb d_M_many_70 rfl (lv_at hl 3 rfl) ?_
            refine va_get (D := D) (ci := 10) (v := .ref (mm 2)) (C := "ValueTreesModel") (T := T_M) (N := 12) hx hb ht in_M hown hK.1 hM.1 0 rfl rfl 1 (by decide) (ht _ q540) (fun _ h9 => h9) rfl d_M_many_71 ?_
            refine lv_aload_n hx hb d_M_many_74 rfl (lv_at hl 3 rfl) ?_
            refine va_get (D := D) (ci := 10) (v := .ref (mm 4)) (C := "ValueTreesModel") (T := T_M) (N := 12) hx hb ht in_M hown hK.1 hM.1 0 rfl rfl 4 (by decide) (ht _ q543) (fun _ h9 => h9) rfl d_M_many_75 ?_
            refine lv_iload_n hx hb d_M_many_78 rfl (lv_at hl 4 rfl) ?_
            refine z_iald hx hb hK (hM.1 4 _ rfl) j5 rfl (by omega) (by decide) d_M_many_79 ?_
            rw [et4]
            refine z_iald hx hb hK (hM.1 2 _ rfl) (vty v4) rfl (by omega) (by decide) d_M_many_80 ?_
            rw [elk]
            refine lv_iload hx hb d_M_many_81 (lv_at hl 0 rfl) ?_
            refine z_callR (va_runV (C := "ValueTreesModel") (As := [.int (nI (lt_ tb (vty v4))), .int (nI (160 * j5 + 5 + q))]) (rest := []) ⟨hx, hb, hml, hown, hts⟩ (c_M_end l D dT _ mm wd lf rt tc ty F sz Wk wz dg dc sh hM hF tb hO hT 200 (lt_ tb (vty v4)) x9 (160 * j5 + 5 + q) (by omega) (by omega) hx9w hfe.1 (by omega)) ⟨callB_of 2 hts (gI gd_up gd_c q762) rfl rfl rfl (ht _ q10) (ht _ q759) hd_M_end ⟨Nat.le_of_ble_eq_true rfl, Nat.le_of_ble_eq_true rfl⟩, ht _ q761, ht _ qs43⟩ (z_preV hK (va_recv hK.1 hM.1 (ci := 10) (q0 := 0) rfl rfl)) rfl rfl hl.1 rfl (lv_room (Nat.le_of_ble_eq_true rfl)) d_M_many_83 ⟨Nat.zero_le _, Nat.zero_le _⟩) (fun v41 hv40 => ?_)
            subst hv40
            refine lv_goto (tgt := 101) hx hb d_M_many_86 (by decide) ?_
            refine lv_istore (lv' := [(4, .int (nI (160 * j5 + 5 + q + (cs x9).length))), (3, .int (nI m9)), (2, .int (nI (tW (tb (vty v4))))), (0, .ref (mm 0)), (1, .int (nI j5))]) hx hb d_M_many_101 hl (by decide) rfl (fun ls hl => ?_)
            refine lv_iinc (v := (nI (m9 + 1))) (lv' := [(3, .int (nI (m9 + 1))), (4, .int (nI (160 * j5 + 5 + q + (cs x9).length))), (2, .int (nI (tW (tb (vty v4))))), (0, .ref (mm 0)), (1, .int (nI j5))]) hx hb d_M_many_103 hl (k := 1) rfl (nI_1 m9) (by decide) rfl (fun ls hl => ?_)
            refine lv_goto (tgt := 47) hx hb d_M_many_106 (by decide) ?_
            rw [show 160 * j5 + 5 + q + (cs x9).length = 160 * j5 + 5 + (q + (cs x9).length) by omega] at hl
            exact ih47 y9 (q + (cs x9).length) (m9 + 1) hy9w (by omega) (by rw [← Nat.add_assoc]; exact hfe.2) (by rw [hcl]; show m9 + (clen y9 + 1) = _; omega) (by omega)  ls (lv_sub hl [1, 0, 2, 3, 4] rfl)
      exact loop35 ((cs (.intCast k)).length + 1) (.intCast k) 0 0 hcw (by omega) hfc (by omega) (by omega)  ls (lv_sub hl [0, 1, 2, 3, 4] rfl)
    | var i =>
      rw [f_var] at hfz
      rcases hc9.2 with ⟨hword, hi9⟩ | ⟨hword, hi9⟩ | ⟨hword, hi9⟩
      · subst hi9
        refine lv_iload_n hx hb d_M_many_6 rfl (lv_at hl 0 rfl) ?_
        refine z_callR (va_runS (As := [.int (nI (tW (tb (vty v4))))]) (rest := []) ⟨hx, hb, hml, hown, hts⟩ (c_M_isRow l D dT _ (nI (tW (tb (vty v4))))) ⟨callB_of 1 hts (gI gd_up gd_c q750) rfl rfl rfl (ht _ q10) (ht _ q748) hd_M_isRow ⟨Nat.le_of_ble_eq_true rfl, Nat.le_of_ble_eq_true rfl⟩, ht _ q749⟩ (z_preS hK) rfl rfl hl.1 rfl (lv_room (Nat.le_of_ble_eq_true rfl)) d_M_many_7 ⟨Nat.zero_le _, Nat.zero_le _⟩) (fun v43 hv42 => ?_)
        have hv42 : v43 = .int (if isRw (nI (tW (tb (vty v4)))) then 1 else 0) := hv42
        rw [if_neg (fun h9 => absurd ((isRw_nI (by omega)).mp h9) (by omega))] at hv42
        subst hv42
        refine lv_if_eq (tgt := 22) hx hb d_M_many_10 (by decide) (fun _ => ?_) (fun c45 => absurd c45 (by decide))
        refine lv_iload_n hx hb d_M_many_22 rfl (lv_at hl 0 rfl) ?_
        refine lv_bipush (v := 11) hx hb d_M_many_23 (by decide) ?_
        refine lv_icmp_eq (tgt := 37) hx hb d_M_many_25 (by decide) (fun c46 => absurd ((nI_eq (a := (tW (tb (vty v4)))) (b := 11) (by omega) (by omega)).mp c46) (by omega)) (fun c46 => ?_)
        refine lv_iload_n hx hb d_M_many_28 rfl (lv_at hl 0 rfl) ?_
        refine z_callR (va_runS (As := [.int (nI (tW (tb (vty v4))))]) (rest := []) ⟨hx, hb, hml, hown, hts⟩ (c_M_isTree l D dT _ (nI (tW (tb (vty v4))))) ⟨callB_of 1 hts (gI gd_up gd_c q699) rfl rfl rfl (ht _ q10) (ht _ q697) hd_M_isTree ⟨Nat.le_of_ble_eq_true rfl, Nat.le_of_ble_eq_true rfl⟩, ht _ q698⟩ (z_preS hK) rfl rfl hl.1 rfl (lv_room (Nat.le_of_ble_eq_true rfl)) d_M_many_29 ⟨Nat.zero_le _, Nat.zero_le _⟩) (fun v48 hv47 => ?_)
        have hv47 : v48 = .int (if isTr (nI (tW (tb (vty v4)))) then 1 else 0) := hv47
        rw [if_neg (fun h9 => absurd ((isTr_nI (by omega)).mp h9) (by omega))] at hv47
        subst hv47
        refine lv_if_ne (tgt := 37) hx hb d_M_many_32 (by decide) (fun c50 => absurd c50 (by decide)) (fun _ => ?_)
        refine lv_iconst (v := (-1)) hx hb d_M_many_35 (by decide) ?_
        refine z_iretR hx hb hr hlocks d_M_many_36 ?_
        unfold a_many; rw [hrr, ec9]
        try rfl
      · have ht1 : (vty v4) = 1 := (is_word hO ht4 (by omega)).trans hword
        rcases hi9 with rfl | rfl
        · have hf1 : F (160 * j5 + 1) = 3 := by rw [hfz.2, ht1]; rfl
          refine lv_iload_n hx hb d_M_many_6 rfl (lv_at hl 0 rfl) ?_
          refine z_callR (va_runS (As := [.int (nI (tW (tb (vty v4))))]) (rest := []) ⟨hx, hb, hml, hown, hts⟩ (c_M_isRow l D dT _ (nI (tW (tb (vty v4))))) ⟨callB_of 1 hts (gI gd_up gd_c q750) rfl rfl rfl (ht _ q10) (ht _ q748) hd_M_isRow ⟨Nat.le_of_ble_eq_true rfl, Nat.le_of_ble_eq_true rfl⟩, ht _ q749⟩ (z_preS hK) rfl rfl hl.1 rfl (lv_room (Nat.le_of_ble_eq_true rfl)) d_M_many_7 ⟨Nat.zero_le _, Nat.zero_le _⟩) (fun v52 hv51 => ?_)
          have hv51 : v52 = .int (if isRw (nI (tW (tb (vty v4)))) then 1 else 0) := hv51
          rw [if_neg (fun h9 => absurd ((isRw_nI (by omega)).mp h9) (by omega))] at hv51
          subst hv51
          refine lv_if_eq (tgt := 22) hx hb d_M_many_10 (by decide) (fun _ => ?_) (fun c54 => absurd c54 (by decide))
          refine lv_iload_n hx hb d_M_many_22 rfl (lv_at hl 0 rfl) ?_
          refine lv_bipush (v := 11) hx hb d_M_many_23 (by decide) ?_
          refine lv_icmp_eq (tgt := 37) hx hb d_M_many_25 (by decide) (fun c55 => absurd ((nI_eq (a := (tW (tb (vty v4)))) (b := 11) (by omega) (by omega)).mp c55) (by omega)) (fun c55 => ?_)
          refine lv_iload_n hx hb d_M_many_28 rfl (lv_at hl 0 rfl) ?_
          refine z_callR (va_runS (As := [.int (nI (tW (tb (vty v4))))]) (rest := []) ⟨hx, hb, hml, hown, hts⟩ (c_M_isTree l D dT _ (nI (tW (tb (vty v4))))) ⟨callB_of 1 hts (gI gd_up gd_c q699) rfl rfl rfl (ht _ q10) (ht _ q697) hd_M_isTree ⟨Nat.le_of_ble_eq_true rfl, Nat.le_of_ble_eq_true rfl⟩, ht _ q698⟩ (z_preS hK) rfl rfl hl.1 rfl (lv_room (Nat.le_of_ble_eq_true rfl)) d_M_many_29 ⟨Nat.zero_le _, Nat.zero_le _⟩) (fun v57 hv56 => ?_)
          have hv56 : v57 = .int (if isTr (nI (tW (tb (vty v4)))) then 1 else 0) := hv56
          rw [if_neg (fun h9 => absurd ((isTr_nI (by omega)).mp h9) (by omega))] at hv56
          subst hv56
          refine lv_if_ne (tgt := 37) hx hb d_M_many_32 (by decide) (fun c59 => absurd c59 (by decide)) (fun _ => ?_)
          refine lv_iconst (v := (-1)) hx hb d_M_many_35 (by decide) ?_
          refine z_iretR hx hb hr hlocks d_M_many_36 ?_
          unfold a_many; rw [hrr, ec9]
          try rfl
        · have hf1 : F (160 * j5 + 1) = 10 := by rw [hfz.2, ht1]; rfl
          refine lv_iload_n hx hb d_M_many_6 rfl (lv_at hl 0 rfl) ?_
          refine z_callR (va_runS (As := [.int (nI (tW (tb (vty v4))))]) (rest := []) ⟨hx, hb, hml, hown, hts⟩ (c_M_isRow l D dT _ (nI (tW (tb (vty v4))))) ⟨callB_of 1 hts (gI gd_up gd_c q750) rfl rfl rfl (ht _ q10) (ht _ q748) hd_M_isRow ⟨Nat.le_of_ble_eq_true rfl, Nat.le_of_ble_eq_true rfl⟩, ht _ q749⟩ (z_preS hK) rfl rfl hl.1 rfl (lv_room (Nat.le_of_ble_eq_true rfl)) d_M_many_7 ⟨Nat.zero_le _, Nat.zero_le _⟩) (fun v61 hv60 => ?_)
          have hv60 : v61 = .int (if isRw (nI (tW (tb (vty v4)))) then 1 else 0) := hv60
          rw [if_neg (fun h9 => absurd ((isRw_nI (by omega)).mp h9) (by omega))] at hv60
          subst hv60
          refine lv_if_eq (tgt := 22) hx hb d_M_many_10 (by decide) (fun _ => ?_) (fun c63 => absurd c63 (by decide))
          refine lv_iload_n hx hb d_M_many_22 rfl (lv_at hl 0 rfl) ?_
          refine lv_bipush (v := 11) hx hb d_M_many_23 (by decide) ?_
          refine lv_icmp_eq (tgt := 37) hx hb d_M_many_25 (by decide) (fun c64 => absurd ((nI_eq (a := (tW (tb (vty v4)))) (b := 11) (by omega) (by omega)).mp c64) (by omega)) (fun c64 => ?_)
          refine lv_iload_n hx hb d_M_many_28 rfl (lv_at hl 0 rfl) ?_
          refine z_callR (va_runS (As := [.int (nI (tW (tb (vty v4))))]) (rest := []) ⟨hx, hb, hml, hown, hts⟩ (c_M_isTree l D dT _ (nI (tW (tb (vty v4))))) ⟨callB_of 1 hts (gI gd_up gd_c q699) rfl rfl rfl (ht _ q10) (ht _ q697) hd_M_isTree ⟨Nat.le_of_ble_eq_true rfl, Nat.le_of_ble_eq_true rfl⟩, ht _ q698⟩ (z_preS hK) rfl rfl hl.1 rfl (lv_room (Nat.le_of_ble_eq_true rfl)) d_M_many_29 ⟨Nat.zero_le _, Nat.zero_le _⟩) (fun v66 hv65 => ?_)
          have hv65 : v66 = .int (if isTr (nI (tW (tb (vty v4)))) then 1 else 0) := hv65
          rw [if_neg (fun h9 => absurd ((isTr_nI (by omega)).mp h9) (by omega))] at hv65
          subst hv65
          refine lv_if_ne (tgt := 37) hx hb d_M_many_32 (by decide) (fun c68 => absurd c68 (by decide)) (fun _ => ?_)
          refine lv_iconst (v := (-1)) hx hb d_M_many_35 (by decide) ?_
          refine z_iretR hx hb hr hlocks d_M_many_36 ?_
          unfold a_many; rw [hrr, ec9]
          try rfl
      · subst hi9
        have ht1 := not_one hO ht4 (by omega)
        have hf1 : F (160 * j5 + 1) = 6 := by rw [hfz.2]; simp [vtag, ht1]
        refine lv_iload_n hx hb d_M_many_6 rfl (lv_at hl 0 rfl) ?_
        refine z_callR (va_runS (As := [.int (nI (tW (tb (vty v4))))]) (rest := []) ⟨hx, hb, hml, hown, hts⟩ (c_M_isRow l D dT _ (nI (tW (tb (vty v4))))) ⟨callB_of 1 hts (gI gd_up gd_c q750) rfl rfl rfl (ht _ q10) (ht _ q748) hd_M_isRow ⟨Nat.le_of_ble_eq_true rfl, Nat.le_of_ble_eq_true rfl⟩, ht _ q749⟩ (z_preS hK) rfl rfl hl.1 rfl (lv_room (Nat.le_of_ble_eq_true rfl)) d_M_many_7 ⟨Nat.zero_le _, Nat.zero_le _⟩) (fun v70 hv69 => ?_)
        have hv69 : v70 = .int (if isRw (nI (tW (tb (vty v4)))) then 1 else 0) := hv69
        rw [if_neg (fun h9 => absurd ((isRw_nI (by omega)).mp h9) (by omega))] at hv69
        subst hv69
        refine lv_if_eq (tgt := 22) hx hb d_M_many_10 (by decide) (fun _ => ?_) (fun c72 => absurd c72 (by decide))
        refine lv_iload_n hx hb d_M_many_22 rfl (lv_at hl 0 rfl) ?_
        refine lv_bipush (v := 11) hx hb d_M_many_23 (by decide) ?_
        refine lv_icmp_eq (tgt := 37) hx hb d_M_many_25 (by decide) (fun c73 => absurd ((nI_eq (a := (tW (tb (vty v4)))) (b := 11) (by omega) (by omega)).mp c73) (by omega)) (fun c73 => ?_)
        refine lv_iload_n hx hb d_M_many_28 rfl (lv_at hl 0 rfl) ?_
        refine z_callR (va_runS (As := [.int (nI (tW (tb (vty v4))))]) (rest := []) ⟨hx, hb, hml, hown, hts⟩ (c_M_isTree l D dT _ (nI (tW (tb (vty v4))))) ⟨callB_of 1 hts (gI gd_up gd_c q699) rfl rfl rfl (ht _ q10) (ht _ q697) hd_M_isTree ⟨Nat.le_of_ble_eq_true rfl, Nat.le_of_ble_eq_true rfl⟩, ht _ q698⟩ (z_preS hK) rfl rfl hl.1 rfl (lv_room (Nat.le_of_ble_eq_true rfl)) d_M_many_29 ⟨Nat.zero_le _, Nat.zero_le _⟩) (fun v75 hv74 => ?_)
        have hv74 : v75 = .int (if isTr (nI (tW (tb (vty v4)))) then 1 else 0) := hv74
        rw [if_neg (fun h9 => absurd ((isTr_nI (by omega)).mp h9) (by omega))] at hv74
        subst hv74
        refine lv_if_ne (tgt := 37) hx hb d_M_many_32 (by decide) (fun c77 => absurd c77 (by decide)) (fun _ => ?_)
        refine lv_iconst (v := (-1)) hx hb d_M_many_35 (by decide) ?_
        refine z_iretR hx hb hr hlocks d_M_many_36 ?_
        unfold a_many; rw [hrr, ec9]
        try rfl
    | neg ch =>
      have hwd : tW (tb (vty v4)) = 12 ∨ tW (tb (vty v4)) = 15 ∨ tW (tb (vty v4)) = 16 := by simp only [wty] at hc9; omega
      obtain ⟨ch9, ech9, hch⟩ := tree_of hw4 hwd
      have ech9 := ec9.symm.trans ech9
      cases ech9
      rw [f_neg] at hfz
      rw [l_neg] at hlz
      have hlc : (cs v4).length = 5 + (cs ch).length := by rw [ec9, l_neg]
      have hfc := hfz.2.2
      refine lv_iload_n hx hb d_M_many_6 rfl (lv_at hl 0 rfl) ?_
      refine z_callR (va_runS (As := [.int (nI (tW (tb (vty v4))))]) (rest := []) ⟨hx, hb, hml, hown, hts⟩ (c_M_isRow l D dT _ (nI (tW (tb (vty v4))))) ⟨callB_of 1 hts (gI gd_up gd_c q750) rfl rfl rfl (ht _ q10) (ht _ q748) hd_M_isRow ⟨Nat.le_of_ble_eq_true rfl, Nat.le_of_ble_eq_true rfl⟩, ht _ q749⟩ (z_preS hK) rfl rfl hl.1 rfl (lv_room (Nat.le_of_ble_eq_true rfl)) d_M_many_7 ⟨Nat.zero_le _, Nat.zero_le _⟩) (fun v79 hv78 => ?_)
      have hv78 : v79 = .int (if isRw (nI (tW (tb (vty v4)))) then 1 else 0) := hv78
      rw [if_neg (fun h9 => absurd ((isRw_nI (by omega)).mp h9) (by omega))] at hv78
      subst hv78
      refine lv_if_eq (tgt := 22) hx hb d_M_many_10 (by decide) (fun _ => ?_) (fun c81 => absurd c81 (by decide))
      refine lv_iload_n hx hb d_M_many_22 rfl (lv_at hl 0 rfl) ?_
      refine lv_bipush (v := 11) hx hb d_M_many_23 (by decide) ?_
      refine lv_icmp_eq (tgt := 37) hx hb d_M_many_25 (by decide) (fun c82 => absurd ((nI_eq (a := (tW (tb (vty v4)))) (b := 11) (by omega) (by omega)).mp c82) (by omega)) (fun c82 => ?_)
      refine lv_iload_n hx hb d_M_many_28 rfl (lv_at hl 0 rfl) ?_
      refine z_callR (va_runS (As := [.int (nI (tW (tb (vty v4))))]) (rest := []) ⟨hx, hb, hml, hown, hts⟩ (c_M_isTree l D dT _ (nI (tW (tb (vty v4))))) ⟨callB_of 1 hts (gI gd_up gd_c q699) rfl rfl rfl (ht _ q10) (ht _ q697) hd_M_isTree ⟨Nat.le_of_ble_eq_true rfl, Nat.le_of_ble_eq_true rfl⟩, ht _ q698⟩ (z_preS hK) rfl rfl hl.1 rfl (lv_room (Nat.le_of_ble_eq_true rfl)) d_M_many_29 ⟨Nat.zero_le _, Nat.zero_le _⟩) (fun v84 hv83 => ?_)
      have hv83 : v84 = .int (if isTr (nI (tW (tb (vty v4)))) then 1 else 0) := hv83
      rw [if_pos ((isTr_nI (by omega)).mpr (by omega))] at hv83
      subst hv83
      refine lv_if_ne (tgt := 37) hx hb d_M_many_32 (by decide) (fun _ => ?_) (fun c86 => absurd c86 (by decide))
      refine lv_iconst (v := 0) hx hb d_M_many_37 (by decide) ?_
      refine lv_istore_n (lv' := [(3, .int 0), (2, .int (nI (tW (tb (vty v4))))), (0, .ref (mm 0)), (1, .int (nI j5))]) hx hb d_M_many_38 rfl hl (by decide) rfl (fun ls hl => ?_)
      refine lv_iload_n hx hb d_M_many_39 rfl (lv_at hl 3 rfl) ?_
      refine z_callR (va_runS (As := [.int (nI j5)]) (rest := []) ⟨hx, hb, hml, hown, hts⟩ (c_M_base l D dT _ (nI j5)) ⟨callB_of 1 hts (gI gd_up gd_c q650) rfl rfl rfl (ht _ q10) (ht _ q648) hd_M_base ⟨Nat.le_of_ble_eq_true rfl, Nat.le_of_ble_eq_true rfl⟩, ht _ q649⟩ (z_preS hK) rfl rfl hl.1 rfl (lv_room (Nat.le_of_ble_eq_true rfl)) d_M_many_40 ⟨Nat.zero_le _, Nat.zero_le _⟩) (fun v88 hv87 => ?_)
      subst hv87
      rw [show (160 * nI j5 : Int32) = nI (160 * j5) from pk_mul 160 j5]
      refine lv_iconst (v := 5) hx hb d_M_many_43 (by decide) ?_
      refine lv_iadd hx hb d_M_many_44 ?_
      rw [show (((nI (160 * j5)) + 5) : Int32) = nI ((160 * j5) + 5) from nI_add (160 * j5) 5]
      refine lv_istore (lv' := [(4, .int (nI ((160 * j5) + 5))), (3, .int 0), (2, .int (nI (tW (tb (vty v4))))), (0, .ref (mm 0)), (1, .int (nI j5))]) hx hb d_M_many_45 hl (by decide) rfl (fun ls hl => ?_)
      have loop89 : ∀ (n479 : Nat) (rem : VT) (q : Nat) (m9 : Nat), (wty tb rem (cmd tb (vty v4)) (vty v4)) → (q + (cs rem).length = (cs ch).length) → (fAt F (160 * j5 + 5 + q) (cs rem)) → (clen ch = m9 + clen rem) → (cs rem).length < n479 → ∀ (ls : Array Slot), lv_has ls 5 [(4, .int (nI (160 * j5 + 5 + q))), (3, .int (nI m9)), (2, .int (nI (tW (tb (vty v4))))), (0, .ref (mm 0)), (1, .int (nI j5))] → W p l e (headSpec w_M_many ({ frames := 210, cells := 0, slots := 0, locals := 5400 })).room s m [.ref (mm 0), .int (nI j5)].toArray below meth c s.heap [] 0 0 (MQ below (z_R (fun v => v = .int (a_many RV (nI j5)))) [.ref (mm 0), .int (nI j5)].toArray s 0 0 (fun _ => False)) (F0 m 47 ls []) := by
        intro n479
        induction n479 with
        | zero =>
          intro rem q m9 hrem hq hfr hcl h479
          exact absurd h479 (Nat.not_lt_zero _)
        | succ n479 ih47 =>
          intro rem q m9 hrem hq hfr hcl h479  ls hl
          refine lv_iload hx hb d_M_many_47 (lv_at hl 0 rfl) ?_
          refine lv_iload_n hx hb d_M_many_49 rfl (lv_at hl 4 rfl) ?_
          refine z_callR (va_runS (As := [.int (nI j5)]) (rest := [.int (nI (160 * j5 + 5 + q))]) ⟨hx, hb, hml, hown, hts⟩ (c_M_base l D dT _ (nI j5)) ⟨callB_of 1 hts (gI gd_up gd_c q650) rfl rfl rfl (ht _ q10) (ht _ q648) hd_M_base ⟨Nat.le_of_ble_eq_true rfl, Nat.le_of_ble_eq_true rfl⟩, ht _ q649⟩ (z_preS hK) rfl rfl hl.1 rfl (lv_room (Nat.le_of_ble_eq_true rfl)) d_M_many_50 ⟨Nat.zero_le _, Nat.zero_le _⟩) (fun v91 hv90 => ?_)
          subst hv90
          rw [show (160 * nI j5 : Int32) = nI (160 * j5) from pk_mul 160 j5]
          refine lv_aload_n hx hb d_M_many_53 rfl (lv_at hl 3 rfl) ?_
          refine va_get (D := D) (ci := 10) (v := .ref (mm 6)) (C := "ValueTreesModel") (T := T_M) (N := 12) hx hb ht in_M hown hK.1 hM.1 0 rfl rfl 6 (by decide) (ht _ q545) (fun _ h9 => h9) rfl d_M_many_54 ?_
          refine lv_iload_n hx hb d_M_many_57 rfl (lv_at hl 4 rfl) ?_
          refine z_iald hx hb hK (hM.1 6 _ rfl) j5 rfl (by omega) (by decide) d_M_many_58 ?_
          rw [es4]
          refine lv_iadd hx hb d_M_many_59 ?_
          rw [show (((nI (160 * j5)) + (nI (cs v4).length)) : Int32) = nI ((160 * j5) + ((cs v4).length)) from nI_add (160 * j5) ((cs v4).length)]
          refine lv_icmp_ge (tgt := 109) hx hb d_M_many_60 (by decide) (fun c92 => ?_) (fun c92 => ?_)
          · have nc92 : ((160 * j5) + ((cs v4).length)) ≤ (160 * j5 + 5 + q) := (nI_leI (a := ((160 * j5) + ((cs v4).length))) (b := (160 * j5 + 5 + q)) (by omega) (by omega)).mp c92
            refine lv_iload_n hx hb d_M_many_109 rfl (lv_at hl 1 rfl) ?_
            refine z_iretR hx hb hr hlocks d_M_many_110 ?_
            have hz9 : clen rem = 0 := by
              obtain ⟨z9, rfl⟩ | ⟨x9, y9, rfl, hx9w, hy9w⟩ := ch_cases hrem
              · rfl
              · exfalso; have := eb_ge hx9w; have h8 : (cs (.mul x9 y9)).length = (eb x9).length + (cs y9).length := (by rw [cs_mul, List.length_append]); omega
            rw [show a_many RV (nI j5) = mny (.neg ch) from by unfold a_many; rw [hrr, ec9]; try rfl]
            show Value.int (nI m9) = Value.int (nI (clen ch))
            rw [show clen ch = m9 by omega]
          · have nc92 : ¬ ((160 * j5) + ((cs v4).length)) ≤ (160 * j5 + 5 + q) := fun h9 => c92 ((nI_leI (a := ((160 * j5) + ((cs v4).length))) (b := (160 * j5 + 5 + q)) (by omega) (by omega)).mpr h9)
            obtain ⟨z9, rfl⟩ | ⟨e9, r9, rfl, hwe, hr9⟩ := ch_cases hrem
            · exact absurd hq (by show ¬ q + 0 = _; omega)
            have hge9 := eb_ge hwe
            have hlm : (cs (.mul e9 r9)).length = (eb e9).length + (cs r9).length := by rw [cs_mul, List.length_append]
            have hfe9 : fAt F (160 * j5 + 5 + q) (eb e9) ∧ fAt F (160 * j5 + 5 + q + (eb e9).length) (cs r9) := by have h8 := hfr; rw [cs_mul, fAt_app] at h8; exact h8
            have hfe := hfe9.1
            refine lv_iload_n hx hb d_M_many_63 rfl (lv_at hl 2 rfl) ?_
            refine lv_bipush (v := 11) hx hb d_M_many_64 (by decide) ?_
            refine lv_icmp_ne (tgt := 89) hx hb d_M_many_66 (by decide) (fun c93 => ?_) (fun c93 => absurd ((nI_eq (a := (tW (tb (vty v4)))) (b := 11) (by omega) (by omega)).mp c93) (by omega))
            refine lv_aload_n hx hb d_M_many_89 rfl (lv_at hl 3 rfl) ?_
            refine lv_aload_n hx hb d_M_many_90 rfl (lv_at hl 3 rfl) ?_
            refine va_get (D := D) (ci := 10) (v := .ref (mm 4)) (C := "ValueTreesModel") (T := T_M) (N := 12) hx hb ht in_M hown hK.1 hM.1 0 rfl rfl 4 (by decide) (ht _ q543) (fun _ h9 => h9) rfl d_M_many_91 ?_
            refine lv_iload_n hx hb d_M_many_94 rfl (lv_at hl 4 rfl) ?_
            refine z_iald hx hb hK (hM.1 4 _ rfl) j5 rfl (by omega) (by decide) d_M_many_95 ?_
            rw [et4]
            refine lv_iload hx hb d_M_many_96 (lv_at hl 0 rfl) ?_
            refine z_callR (va_runV (C := "ValueTreesModel") (As := [.int (nI (vty v4)), .int (nI (160 * j5 + 5 + q))]) (rest := []) ⟨hx, hb, hml, hown, hts⟩ (c_M_entryEnd l D dT _ mm wd lf rt tc ty F sz Wk wz dg dc sh hM hF tb hO hT (vty v4) (160 * j5 + 5 + q) e9 (by omega) hwd hwe hfe (by omega)) ⟨callB_of 2 hts (gI gd_up gd_c q770) rfl rfl rfl (ht _ q10) (ht _ q767) hd_M_entryEnd ⟨Nat.le_of_ble_eq_true rfl, Nat.le_of_ble_eq_true rfl⟩, ht _ q769, ht _ qs45⟩ (z_preV hK (va_recv hK.1 hM.1 (ci := 10) (q0 := 0) rfl rfl)) rfl rfl hl.1 rfl (lv_room (Nat.le_of_ble_eq_true rfl)) d_M_many_98 ⟨Nat.zero_le _, Nat.zero_le _⟩) (fun v95 hv94 => ?_)
            subst hv94
            refine lv_istore (lv' := [(4, .int (nI (160 * j5 + 5 + q + (eb e9).length))), (3, .int (nI m9)), (2, .int (nI (tW (tb (vty v4))))), (0, .ref (mm 0)), (1, .int (nI j5))]) hx hb d_M_many_101 hl (by decide) rfl (fun ls hl => ?_)
            refine lv_iinc (v := (nI (m9 + 1))) (lv' := [(3, .int (nI (m9 + 1))), (4, .int (nI (160 * j5 + 5 + q + (eb e9).length))), (2, .int (nI (tW (tb (vty v4))))), (0, .ref (mm 0)), (1, .int (nI j5))]) hx hb d_M_many_103 hl (k := 1) rfl (nI_1 m9) (by decide) rfl (fun ls hl => ?_)
            refine lv_goto (tgt := 47) hx hb d_M_many_106 (by decide) ?_
            rw [show 160 * j5 + 5 + q + (eb e9).length = 160 * j5 + 5 + (q + (eb e9).length) by omega] at hl
            exact ih47 r9 (q + (eb e9).length) (m9 + 1) hr9 (by omega) (by rw [← Nat.add_assoc]; exact hfe9.2) (by rw [hcl]; show m9 + (clen r9 + 1) = _; omega) (by omega)  ls (lv_sub hl [1, 0, 2, 3, 4] rfl)
      exact loop89 ((cs ch).length + 1) ch 0 0 hch (by omega) hfc (by omega) (by omega)  ls (lv_sub hl [0, 1, 2, 3, 4] rfl)
    | add x y =>
      obtain ⟨hm9, hx9, hy9⟩ := hc9
      have hword : tW (tb (vty v4)) = 18 := by omega
      rw [f_add] at hfz
      rw [l_add] at hlz
      refine lv_iload_n hx hb d_M_many_6 rfl (lv_at hl 0 rfl) ?_
      refine z_callR (va_runS (As := [.int (nI (tW (tb (vty v4))))]) (rest := []) ⟨hx, hb, hml, hown, hts⟩ (c_M_isRow l D dT _ (nI (tW (tb (vty v4))))) ⟨callB_of 1 hts (gI gd_up gd_c q750) rfl rfl rfl (ht _ q10) (ht _ q748) hd_M_isRow ⟨Nat.le_of_ble_eq_true rfl, Nat.le_of_ble_eq_true rfl⟩, ht _ q749⟩ (z_preS hK) rfl rfl hl.1 rfl (lv_room (Nat.le_of_ble_eq_true rfl)) d_M_many_7 ⟨Nat.zero_le _, Nat.zero_le _⟩) (fun v97 hv96 => ?_)
      have hv96 : v97 = .int (if isRw (nI (tW (tb (vty v4)))) then 1 else 0) := hv96
      rw [if_neg (fun h9 => absurd ((isRw_nI (by omega)).mp h9) (by omega))] at hv96
      subst hv96
      refine lv_if_eq (tgt := 22) hx hb d_M_many_10 (by decide) (fun _ => ?_) (fun c99 => absurd c99 (by decide))
      refine lv_iload_n hx hb d_M_many_22 rfl (lv_at hl 0 rfl) ?_
      refine lv_bipush (v := 11) hx hb d_M_many_23 (by decide) ?_
      refine lv_icmp_eq (tgt := 37) hx hb d_M_many_25 (by decide) (fun c100 => absurd ((nI_eq (a := (tW (tb (vty v4)))) (b := 11) (by omega) (by omega)).mp c100) (by omega)) (fun c100 => ?_)
      refine lv_iload_n hx hb d_M_many_28 rfl (lv_at hl 0 rfl) ?_
      refine z_callR (va_runS (As := [.int (nI (tW (tb (vty v4))))]) (rest := []) ⟨hx, hb, hml, hown, hts⟩ (c_M_isTree l D dT _ (nI (tW (tb (vty v4))))) ⟨callB_of 1 hts (gI gd_up gd_c q699) rfl rfl rfl (ht _ q10) (ht _ q697) hd_M_isTree ⟨Nat.le_of_ble_eq_true rfl, Nat.le_of_ble_eq_true rfl⟩, ht _ q698⟩ (z_preS hK) rfl rfl hl.1 rfl (lv_room (Nat.le_of_ble_eq_true rfl)) d_M_many_29 ⟨Nat.zero_le _, Nat.zero_le _⟩) (fun v102 hv101 => ?_)
      have hv101 : v102 = .int (if isTr (nI (tW (tb (vty v4)))) then 1 else 0) := hv101
      rw [if_neg (fun h9 => absurd ((isTr_nI (by omega)).mp h9) (by omega))] at hv101
      subst hv101
      refine lv_if_ne (tgt := 37) hx hb d_M_many_32 (by decide) (fun c104 => absurd c104 (by decide)) (fun _ => ?_)
      refine lv_iconst (v := (-1)) hx hb d_M_many_35 (by decide) ?_
      refine z_iretR hx hb hr hlocks d_M_many_36 ?_
      unfold a_many; rw [hrr, ec9]
      try rfl
    | sub a9 x =>
      rw [f_sub] at hfz
      rw [l_sub] at hlz
      rcases hc9.2 with ⟨hword, rfl, hsub⟩ | ⟨hword, rfl, hsub⟩ | ⟨hword, rfl, hsub⟩
      · have hf1 : F (160 * j5 + 1) = 9 := hfz.2.1
        refine lv_iload_n hx hb d_M_many_6 rfl (lv_at hl 0 rfl) ?_
        refine z_callR (va_runS (As := [.int (nI (tW (tb (vty v4))))]) (rest := []) ⟨hx, hb, hml, hown, hts⟩ (c_M_isRow l D dT _ (nI (tW (tb (vty v4))))) ⟨callB_of 1 hts (gI gd_up gd_c q750) rfl rfl rfl (ht _ q10) (ht _ q748) hd_M_isRow ⟨Nat.le_of_ble_eq_true rfl, Nat.le_of_ble_eq_true rfl⟩, ht _ q749⟩ (z_preS hK) rfl rfl hl.1 rfl (lv_room (Nat.le_of_ble_eq_true rfl)) d_M_many_7 ⟨Nat.zero_le _, Nat.zero_le _⟩) (fun v106 hv105 => ?_)
        have hv105 : v106 = .int (if isRw (nI (tW (tb (vty v4)))) then 1 else 0) := hv105
        rw [if_neg (fun h9 => absurd ((isRw_nI (by omega)).mp h9) (by omega))] at hv105
        subst hv105
        refine lv_if_eq (tgt := 22) hx hb d_M_many_10 (by decide) (fun _ => ?_) (fun c108 => absurd c108 (by decide))
        refine lv_iload_n hx hb d_M_many_22 rfl (lv_at hl 0 rfl) ?_
        refine lv_bipush (v := 11) hx hb d_M_many_23 (by decide) ?_
        refine lv_icmp_eq (tgt := 37) hx hb d_M_many_25 (by decide) (fun c109 => absurd ((nI_eq (a := (tW (tb (vty v4)))) (b := 11) (by omega) (by omega)).mp c109) (by omega)) (fun c109 => ?_)
        refine lv_iload_n hx hb d_M_many_28 rfl (lv_at hl 0 rfl) ?_
        refine z_callR (va_runS (As := [.int (nI (tW (tb (vty v4))))]) (rest := []) ⟨hx, hb, hml, hown, hts⟩ (c_M_isTree l D dT _ (nI (tW (tb (vty v4))))) ⟨callB_of 1 hts (gI gd_up gd_c q699) rfl rfl rfl (ht _ q10) (ht _ q697) hd_M_isTree ⟨Nat.le_of_ble_eq_true rfl, Nat.le_of_ble_eq_true rfl⟩, ht _ q698⟩ (z_preS hK) rfl rfl hl.1 rfl (lv_room (Nat.le_of_ble_eq_true rfl)) d_M_many_29 ⟨Nat.zero_le _, Nat.zero_le _⟩) (fun v111 hv110 => ?_)
        have hv110 : v111 = .int (if isTr (nI (tW (tb (vty v4)))) then 1 else 0) := hv110
        rw [if_neg (fun h9 => absurd ((isTr_nI (by omega)).mp h9) (by omega))] at hv110
        subst hv110
        refine lv_if_ne (tgt := 37) hx hb d_M_many_32 (by decide) (fun c113 => absurd c113 (by decide)) (fun _ => ?_)
        refine lv_iconst (v := (-1)) hx hb d_M_many_35 (by decide) ?_
        refine z_iretR hx hb hr hlocks d_M_many_36 ?_
        unfold a_many; rw [hrr, ec9]
        try rfl
      · have hf1 : F (160 * j5 + 1) = 5 := hfz.2.1
        refine lv_iload_n hx hb d_M_many_6 rfl (lv_at hl 0 rfl) ?_
        refine z_callR (va_runS (As := [.int (nI (tW (tb (vty v4))))]) (rest := []) ⟨hx, hb, hml, hown, hts⟩ (c_M_isRow l D dT _ (nI (tW (tb (vty v4))))) ⟨callB_of 1 hts (gI gd_up gd_c q750) rfl rfl rfl (ht _ q10) (ht _ q748) hd_M_isRow ⟨Nat.le_of_ble_eq_true rfl, Nat.le_of_ble_eq_true rfl⟩, ht _ q749⟩ (z_preS hK) rfl rfl hl.1 rfl (lv_room (Nat.le_of_ble_eq_true rfl)) d_M_many_7 ⟨Nat.zero_le _, Nat.zero_le _⟩) (fun v115 hv114 => ?_)
        have hv114 : v115 = .int (if isRw (nI (tW (tb (vty v4)))) then 1 else 0) := hv114
        rw [if_neg (fun h9 => absurd ((isRw_nI (by omega)).mp h9) (by omega))] at hv114
        subst hv114
        refine lv_if_eq (tgt := 22) hx hb d_M_many_10 (by decide) (fun _ => ?_) (fun c117 => absurd c117 (by decide))
        refine lv_iload_n hx hb d_M_many_22 rfl (lv_at hl 0 rfl) ?_
        refine lv_bipush (v := 11) hx hb d_M_many_23 (by decide) ?_
        refine lv_icmp_eq (tgt := 37) hx hb d_M_many_25 (by decide) (fun c118 => absurd ((nI_eq (a := (tW (tb (vty v4)))) (b := 11) (by omega) (by omega)).mp c118) (by omega)) (fun c118 => ?_)
        refine lv_iload_n hx hb d_M_many_28 rfl (lv_at hl 0 rfl) ?_
        refine z_callR (va_runS (As := [.int (nI (tW (tb (vty v4))))]) (rest := []) ⟨hx, hb, hml, hown, hts⟩ (c_M_isTree l D dT _ (nI (tW (tb (vty v4))))) ⟨callB_of 1 hts (gI gd_up gd_c q699) rfl rfl rfl (ht _ q10) (ht _ q697) hd_M_isTree ⟨Nat.le_of_ble_eq_true rfl, Nat.le_of_ble_eq_true rfl⟩, ht _ q698⟩ (z_preS hK) rfl rfl hl.1 rfl (lv_room (Nat.le_of_ble_eq_true rfl)) d_M_many_29 ⟨Nat.zero_le _, Nat.zero_le _⟩) (fun v120 hv119 => ?_)
        have hv119 : v120 = .int (if isTr (nI (tW (tb (vty v4)))) then 1 else 0) := hv119
        rw [if_neg (fun h9 => absurd ((isTr_nI (by omega)).mp h9) (by omega))] at hv119
        subst hv119
        refine lv_if_ne (tgt := 37) hx hb d_M_many_32 (by decide) (fun c122 => absurd c122 (by decide)) (fun _ => ?_)
        refine lv_iconst (v := (-1)) hx hb d_M_many_35 (by decide) ?_
        refine z_iretR hx hb hr hlocks d_M_many_36 ?_
        unfold a_many; rw [hrr, ec9]
        try rfl
      · have hf1 : F (160 * j5 + 1) = 8 := hfz.2.1
        refine lv_iload_n hx hb d_M_many_6 rfl (lv_at hl 0 rfl) ?_
        refine z_callR (va_runS (As := [.int (nI (tW (tb (vty v4))))]) (rest := []) ⟨hx, hb, hml, hown, hts⟩ (c_M_isRow l D dT _ (nI (tW (tb (vty v4))))) ⟨callB_of 1 hts (gI gd_up gd_c q750) rfl rfl rfl (ht _ q10) (ht _ q748) hd_M_isRow ⟨Nat.le_of_ble_eq_true rfl, Nat.le_of_ble_eq_true rfl⟩, ht _ q749⟩ (z_preS hK) rfl rfl hl.1 rfl (lv_room (Nat.le_of_ble_eq_true rfl)) d_M_many_7 ⟨Nat.zero_le _, Nat.zero_le _⟩) (fun v124 hv123 => ?_)
        have hv123 : v124 = .int (if isRw (nI (tW (tb (vty v4)))) then 1 else 0) := hv123
        rw [if_neg (fun h9 => absurd ((isRw_nI (by omega)).mp h9) (by omega))] at hv123
        subst hv123
        refine lv_if_eq (tgt := 22) hx hb d_M_many_10 (by decide) (fun _ => ?_) (fun c126 => absurd c126 (by decide))
        refine lv_iload_n hx hb d_M_many_22 rfl (lv_at hl 0 rfl) ?_
        refine lv_bipush (v := 11) hx hb d_M_many_23 (by decide) ?_
        refine lv_icmp_eq (tgt := 37) hx hb d_M_many_25 (by decide) (fun c127 => absurd ((nI_eq (a := (tW (tb (vty v4)))) (b := 11) (by omega) (by omega)).mp c127) (by omega)) (fun c127 => ?_)
        refine lv_iload_n hx hb d_M_many_28 rfl (lv_at hl 0 rfl) ?_
        refine z_callR (va_runS (As := [.int (nI (tW (tb (vty v4))))]) (rest := []) ⟨hx, hb, hml, hown, hts⟩ (c_M_isTree l D dT _ (nI (tW (tb (vty v4))))) ⟨callB_of 1 hts (gI gd_up gd_c q699) rfl rfl rfl (ht _ q10) (ht _ q697) hd_M_isTree ⟨Nat.le_of_ble_eq_true rfl, Nat.le_of_ble_eq_true rfl⟩, ht _ q698⟩ (z_preS hK) rfl rfl hl.1 rfl (lv_room (Nat.le_of_ble_eq_true rfl)) d_M_many_29 ⟨Nat.zero_le _, Nat.zero_le _⟩) (fun v129 hv128 => ?_)
        have hv128 : v129 = .int (if isTr (nI (tW (tb (vty v4)))) then 1 else 0) := hv128
        rw [if_neg (fun h9 => absurd ((isTr_nI (by omega)).mp h9) (by omega))] at hv128
        subst hv128
        refine lv_if_ne (tgt := 37) hx hb d_M_many_32 (by decide) (fun c131 => absurd c131 (by decide)) (fun _ => ?_)
        refine lv_iconst (v := (-1)) hx hb d_M_many_35 (by decide) ?_
        refine z_iretR hx hb hr hlocks d_M_many_36 ?_
        unfold a_many; rw [hrr, ec9]
        try rfl
    | mul x y =>
      obtain ⟨hword, hx9, hy9⟩ : tW (tb (vty v4)) = 11 ∧ wty tb x 0 (lt_ tb (vty v4)) ∧ wty tb y 1 (vty v4) := by
        rcases hc9 with ⟨-, a1, a2, a3⟩ | ⟨a1, -⟩ | ⟨a1, -⟩
        · exact ⟨a1, a2, a3⟩
        · exact absurd a1 (by decide)
        · exact absurd a1 (by decide)
      have hcm : cs (.mul x y) = cs x ++ cs y := by rw [cs_mul, eb_pow hx9]
      rw [f_mul, hcm, fAt_app] at hfz
      rw [l_mul, hcm, List.length_append] at hlz
      have hge := cs_ge hx9
      obtain ⟨hLk, hltk, hlpk⟩ := tl_some hO ht4 (by omega)
      have elk : lf (vty v4) = nI (lt_ tb (vty v4)) := by rw [(hT _ ht4).2.1, hLk]; rfl
      have hpk := (hO.2.2 _ (show lt_ tb (vty v4) < tc by omega)).2.2.2.2.2.2.2.2.1
      have hcw : wty tb (.mul x y) 1 (vty v4) := Or.inl ⟨rfl, hword, hx9, hy9⟩
      have hlc : (cs v4).length = 5 + (cs (.mul x y)).length := by rw [ec9, l_mul]
      have hfc : fAt F (160 * j5 + 5) (cs (.mul x y)) := by rw [hcm, fAt_app]; exact hfz.2.2
      refine lv_iload_n hx hb d_M_many_6 rfl (lv_at hl 0 rfl) ?_
      refine z_callR (va_runS (As := [.int (nI (tW (tb (vty v4))))]) (rest := []) ⟨hx, hb, hml, hown, hts⟩ (c_M_isRow l D dT _ (nI (tW (tb (vty v4))))) ⟨callB_of 1 hts (gI gd_up gd_c q750) rfl rfl rfl (ht _ q10) (ht _ q748) hd_M_isRow ⟨Nat.le_of_ble_eq_true rfl, Nat.le_of_ble_eq_true rfl⟩, ht _ q749⟩ (z_preS hK) rfl rfl hl.1 rfl (lv_room (Nat.le_of_ble_eq_true rfl)) d_M_many_7 ⟨Nat.zero_le _, Nat.zero_le _⟩) (fun v133 hv132 => ?_)
      have hv132 : v133 = .int (if isRw (nI (tW (tb (vty v4)))) then 1 else 0) := hv132
      rw [if_neg (fun h9 => absurd ((isRw_nI (by omega)).mp h9) (by omega))] at hv132
      subst hv132
      refine lv_if_eq (tgt := 22) hx hb d_M_many_10 (by decide) (fun _ => ?_) (fun c135 => absurd c135 (by decide))
      refine lv_iload_n hx hb d_M_many_22 rfl (lv_at hl 0 rfl) ?_
      refine lv_bipush (v := 11) hx hb d_M_many_23 (by decide) ?_
      refine lv_icmp_eq (tgt := 37) hx hb d_M_many_25 (by decide) (fun c136 => ?_) (fun c136 => absurd ((nI_eq (a := (tW (tb (vty v4)))) (b := 11) (by omega) (by omega)).mpr (by omega)) c136)
      refine lv_iconst (v := 0) hx hb d_M_many_37 (by decide) ?_
      refine lv_istore_n (lv' := [(3, .int 0), (2, .int (nI (tW (tb (vty v4))))), (0, .ref (mm 0)), (1, .int (nI j5))]) hx hb d_M_many_38 rfl hl (by decide) rfl (fun ls hl => ?_)
      refine lv_iload_n hx hb d_M_many_39 rfl (lv_at hl 3 rfl) ?_
      refine z_callR (va_runS (As := [.int (nI j5)]) (rest := []) ⟨hx, hb, hml, hown, hts⟩ (c_M_base l D dT _ (nI j5)) ⟨callB_of 1 hts (gI gd_up gd_c q650) rfl rfl rfl (ht _ q10) (ht _ q648) hd_M_base ⟨Nat.le_of_ble_eq_true rfl, Nat.le_of_ble_eq_true rfl⟩, ht _ q649⟩ (z_preS hK) rfl rfl hl.1 rfl (lv_room (Nat.le_of_ble_eq_true rfl)) d_M_many_40 ⟨Nat.zero_le _, Nat.zero_le _⟩) (fun v138 hv137 => ?_)
      subst hv137
      rw [show (160 * nI j5 : Int32) = nI (160 * j5) from pk_mul 160 j5]
      refine lv_iconst (v := 5) hx hb d_M_many_43 (by decide) ?_
      refine lv_iadd hx hb d_M_many_44 ?_
      rw [show (((nI (160 * j5)) + 5) : Int32) = nI ((160 * j5) + 5) from nI_add (160 * j5) 5]
      refine lv_istore (lv' := [(4, .int (nI ((160 * j5) + 5))), (3, .int 0), (2, .int (nI (tW (tb (vty v4))))), (0, .ref (mm 0)), (1, .int (nI j5))]) hx hb d_M_many_45 hl (by decide) rfl (fun ls hl => ?_)
      have loop139 : ∀ (n479 : Nat) (rem : VT) (q : Nat) (m9 : Nat), (wty tb rem 1 (vty v4)) → (q + (cs rem).length = (cs (.mul x y)).length) → (fAt F (160 * j5 + 5 + q) (cs rem)) → (clen (.mul x y) = m9 + clen rem) → (cs rem).length < n479 → ∀ (ls : Array Slot), lv_has ls 5 [(4, .int (nI (160 * j5 + 5 + q))), (3, .int (nI m9)), (2, .int (nI (tW (tb (vty v4))))), (0, .ref (mm 0)), (1, .int (nI j5))] → W p l e (headSpec w_M_many ({ frames := 210, cells := 0, slots := 0, locals := 5400 })).room s m [.ref (mm 0), .int (nI j5)].toArray below meth c s.heap [] 0 0 (MQ below (z_R (fun v => v = .int (a_many RV (nI j5)))) [.ref (mm 0), .int (nI j5)].toArray s 0 0 (fun _ => False)) (F0 m 47 ls []) := by
        intro n479
        induction n479 with
        | zero =>
          intro rem q m9 hrem hq hfr hcl h479
          exact absurd h479 (Nat.not_lt_zero _)
        | succ n479 ih47 =>
          intro rem q m9 hrem hq hfr hcl h479  ls hl
          refine lv_iload hx hb d_M_many_47 (lv_at hl 0 rfl) ?_
          refine lv_iload_n hx hb d_M_many_49 rfl (lv_at hl 4 rfl) ?_
          refine z_callR (va_runS (As := [.int (nI j5)]) (rest := [.int (nI (160 * j5 + 5 + q))]) ⟨hx, hb, hml, hown, hts⟩ (c_M_base l D dT _ (nI j5)) ⟨callB_of 1 hts (gI gd_up gd_c q650) rfl rfl rfl (ht _ q10) (ht _ q648) hd_M_base ⟨Nat.le_of_ble_eq_true rfl, Nat.le_of_ble_eq_true rfl⟩, ht _ q649⟩ (z_preS hK) rfl rfl hl.1 rfl (lv_room (Nat.le_of_ble_eq_true rfl)) d_M_many_50 ⟨Nat.zero_le _, Nat.zero_le _⟩) (fun v141 hv140 => ?_)
          subst hv140
          rw [show (160 * nI j5 : Int32) = nI (160 * j5) from pk_mul 160 j5]
          refine lv_aload_n hx hb d_M_many_53 rfl (lv_at hl 3 rfl) ?_
          refine va_get (D := D) (ci := 10) (v := .ref (mm 6)) (C := "ValueTreesModel") (T := T_M) (N := 12) hx hb ht in_M hown hK.1 hM.1 0 rfl rfl 6 (by decide) (ht _ q545) (fun _ h9 => h9) rfl d_M_many_54 ?_
          refine lv_iload_n hx hb d_M_many_57 rfl (lv_at hl 4 rfl) ?_
          refine z_iald hx hb hK (hM.1 6 _ rfl) j5 rfl (by omega) (by decide) d_M_many_58 ?_
          rw [es4]
          refine lv_iadd hx hb d_M_many_59 ?_
          rw [show (((nI (160 * j5)) + (nI (cs v4).length)) : Int32) = nI ((160 * j5) + ((cs v4).length)) from nI_add (160 * j5) ((cs v4).length)]
          refine lv_icmp_ge (tgt := 109) hx hb d_M_many_60 (by decide) (fun c142 => ?_) (fun c142 => ?_)
          · have nc142 : ((160 * j5) + ((cs v4).length)) ≤ (160 * j5 + 5 + q) := (nI_leI (a := ((160 * j5) + ((cs v4).length))) (b := (160 * j5 + 5 + q)) (by omega) (by omega)).mp c142
            refine lv_iload_n hx hb d_M_many_109 rfl (lv_at hl 1 rfl) ?_
            refine z_iretR hx hb hr hlocks d_M_many_110 ?_
            have hz9 : clen rem = 0 := by
              obtain ⟨z9, rfl⟩ | ⟨x9, y9, rfl, hx9w, hy9w⟩ := w11_cases hrem hword
              · rfl
              · exfalso; have := cs_ge hx9w; have h8 : (cs (.mul x9 y9)).length = (cs x9).length + (cs y9).length := (by rw [cs_mul, eb_pow hx9w, List.length_append]); omega
            rw [show a_many RV (nI j5) = mny (.mul x y) from by unfold a_many; rw [hrr, ec9]; try rfl]
            show Value.int (nI m9) = Value.int (nI (clen (.mul x y)))
            rw [show clen (.mul x y) = m9 by omega]
          · have nc142 : ¬ ((160 * j5) + ((cs v4).length)) ≤ (160 * j5 + 5 + q) := fun h9 => c142 ((nI_leI (a := ((160 * j5) + ((cs v4).length))) (b := (160 * j5 + 5 + q)) (by omega) (by omega)).mpr h9)
            obtain ⟨z9, rfl⟩ | ⟨x9, y9, rfl, hx9w, hy9w⟩ := w11_cases hrem hword
            · exact absurd hq (by show ¬ q + 0 = _; omega)
            have hge9 := cs_ge hx9w
            have hcm9 : cs (.mul x9 y9) = cs x9 ++ cs y9 := by rw [cs_mul, eb_pow hx9w]
            have hlm : (cs (.mul x9 y9)).length = (cs x9).length + (cs y9).length := by rw [hcm9, List.length_append]
            have hfe : fAt F (160 * j5 + 5 + q) (cs x9) ∧ fAt F (160 * j5 + 5 + q + (cs x9).length) (cs y9) := by have h8 := hfr; rw [hcm9, fAt_app] at h8; exact h8
            refine lv_iload_n hx hb d_M_many_63 rfl (lv_at hl 2 rfl) ?_
            refine lv_bipush (v := 11) hx hb d_M_many_64 (by decide) ?_
            refine lv_icmp_ne (tgt := 89) hx hb d_M_many_66 (by decide) (fun c143 => absurd ((nI_eq (a := (tW (tb (vty v4)))) (b := 11) (by omega) (by omega)).mpr (by omega)) c143) (fun c143 => ?_)
            refine lv_aload_n hx hb d_M_many_69 rfl (lv_at hl 3 rfl) ?_
            refine lv_aload_n hx hb d_M_many_70 rfl (lv_at hl 3 rfl) ?_
            refine va_get (D := D) (ci := 10) (v := .ref (mm 2)) (C := "ValueTreesModel") (T := T_M) (N := 12) hx hb ht in_M hown hK.1 hM.1 0 rfl rfl 1 (by decide) (ht _ q540) (fun _ h9 => h9) rfl d_M_many_71 ?_
            refine lv_aload_n hx hb d_M_many_74 rfl (lv_at hl 3 rfl) ?_
            refine va_get (D := D) (ci := 10) (v := .ref (mm 4)) (C := "ValueTreesModel") (T := T_M) (N := 12) hx hb ht in_M hown hK.1 hM.1 0 rfl rfl 4 (by decide) (ht _ q543) (fun _ h9 => h9) rfl d_M_many_75 ?_
            refine lv_iload_n hx hb d_M_many_78 rfl (lv_at hl 4 rfl) ?_
            refine z_iald hx hb hK (hM.1 4 _ rfl) j5 rfl (by omega) (by decide) d_M_many_79 ?_
            rw [et4]
            refine z_iald hx hb hK (hM.1 2 _ rfl) (vty v4) rfl (by omega) (by decide) d_M_many_80 ?_
            rw [elk]
            refine lv_iload hx hb d_M_many_81 (lv_at hl 0 rfl) ?_
            refine z_callR (va_runV (C := "ValueTreesModel") (As := [.int (nI (lt_ tb (vty v4))), .int (nI (160 * j5 + 5 + q))]) (rest := []) ⟨hx, hb, hml, hown, hts⟩ (c_M_end l D dT _ mm wd lf rt tc ty F sz Wk wz dg dc sh hM hF tb hO hT 200 (lt_ tb (vty v4)) x9 (160 * j5 + 5 + q) (by omega) (by omega) hx9w hfe.1 (by omega)) ⟨callB_of 2 hts (gI gd_up gd_c q762) rfl rfl rfl (ht _ q10) (ht _ q759) hd_M_end ⟨Nat.le_of_ble_eq_true rfl, Nat.le_of_ble_eq_true rfl⟩, ht _ q761, ht _ qs43⟩ (z_preV hK (va_recv hK.1 hM.1 (ci := 10) (q0 := 0) rfl rfl)) rfl rfl hl.1 rfl (lv_room (Nat.le_of_ble_eq_true rfl)) d_M_many_83 ⟨Nat.zero_le _, Nat.zero_le _⟩) (fun v145 hv144 => ?_)
            subst hv144
            refine lv_goto (tgt := 101) hx hb d_M_many_86 (by decide) ?_
            refine lv_istore (lv' := [(4, .int (nI (160 * j5 + 5 + q + (cs x9).length))), (3, .int (nI m9)), (2, .int (nI (tW (tb (vty v4))))), (0, .ref (mm 0)), (1, .int (nI j5))]) hx hb d_M_many_101 hl (by decide) rfl (fun ls hl => ?_)
            refine lv_iinc (v := (nI (m9 + 1))) (lv' := [(3, .int (nI (m9 + 1))), (4, .int (nI (160 * j5 + 5 + q + (cs x9).length))), (2, .int (nI (tW (tb (vty v4))))), (0, .ref (mm 0)), (1, .int (nI j5))]) hx hb d_M_many_103 hl (k := 1) rfl (nI_1 m9) (by decide) rfl (fun ls hl => ?_)
            refine lv_goto (tgt := 47) hx hb d_M_many_106 (by decide) ?_
            rw [show 160 * j5 + 5 + q + (cs x9).length = 160 * j5 + 5 + (q + (cs x9).length) by omega] at hl
            exact ih47 y9 (q + (cs x9).length) (m9 + 1) hy9w (by omega) (by rw [← Nat.add_assoc]; exact hfe.2) (by rw [hcl]; show m9 + (clen y9 + 1) = _; omega) (by omega)  ls (lv_sub hl [1, 0, 2, 3, 4] rfl)
      exact loop139 ((cs (.mul x y)).length + 1) (.mul x y) 0 0 hcw (by omega) hfc (by omega) (by omega)  ls (lv_sub hl [0, 1, 2, 3, 4] rfl)
    | pow c8 t8 =>
      exact absurd hc9.1 (by decide)
theorem at_ev {RV : Nat → Option VT} {j n t : Nat} {w : Int32} {v ch : VT} {o : Option VT} (hj : j < 16) (hV : RV j = some v) (ev : v = .pow (.neg ch) t) (hn : n < 2 ^ 31) (h : nthE ch n = o) : o_at RV (nI j) (nI n) w = o.bind (fun e => if w = 0 then some (kyOf e) else if w = 1 then valOf e else none) := by
  subst ev h
  have h0 : (rgs RV (nI j)).bind treeC = some ch := by rw [rgs_nI hj, hV]; rfl
  unfold o_at
  rw [h0]
  dsimp only
  rw [if_pos (nI_pos' hn), nI_clamp hn]
  cases nthE ch n <;> rfl
theorem at_neg {RV : Nat → Option VT} {a i w : Int32} (h : i < 0) : o_at RV a i w = none := by
  unfold o_at
  split
  · rw [if_neg (Int32.not_le.mpr h)]
  · rfl
theorem at_no {RV : Nat → Option VT} {a i w : Int32} (h : ¬ (w = 0 ∨ w = 1)) : o_at RV a i w = none := by
  unfold o_at
  split
  · split
    · split
      · rw [if_neg (fun q => h (Or.inl q)), if_neg (fun q => h (Or.inr q))]
      · rfl
    · rfl
  · rfl
theorem at_not {tb : Nat → TR} {RV : Nat → Option VT} {j : Nat} {i w : Int32} {v : VT} (hw : wty tb v 0 (vty v)) (hV : RV j = some v) (hj : j < 16) (h : ¬ (tW (tb (vty v)) = 12 ∨ tW (tb (vty v)) = 15 ∨ tW (tb (vty v)) = 16)) : o_at RV (nI j) i w = none := by
  obtain ⟨c, e, hc⟩ := wty_pow hw
  have h0 : treeC v = none := by
    rw [e]
    cases c with
    | neg a => simp only [wty] at hc; omega
    | _ => rfl
  unfold o_at
  rw [rgs_nI hj, hV]
  show (match treeC v with | some ch => _ | none => none) = none
  rw [h0]
theorem nth_pow {tb : Nat → TR} {t : Nat} (h12 : tW (tb t) = 12) : ∀ {ch : VT} {n : Nat} {e : VT}, wty tb ch (cmd tb t) t → nthE ch n = some e → valOf e = none := by
  intro ch
  induction ch with
  | mul x y _ ih =>
    intro n e h h2
    obtain ⟨q, hq⟩ | ⟨e', r', he, h1, h3⟩ := ch_cases h
    · cases hq
    · cases he
      cases n with
      | zero =>
        cases h2
        rcases h1 with ⟨-, h4⟩ | ⟨h4, -⟩
        · obtain ⟨c, rfl, -⟩ := wty_pow h4
          rfl
        · exact absurd h12 h4
      | succ n => exact ih h3 h2
  | _ => intro n e _ h2; cases n <;> cases h2
theorem at_st9 {tb : Nat → TR} {RV : Nat → Option VT} {j : Nat} {i : Int32} {v : VT} (hw : wty tb v 0 (vty v)) (hV : RV j = some v) (hj : j < 16) (h : tW (tb (vty v)) = 12) : o_at RV (nI j) i 1 = none := by
  obtain ⟨ch, e, hch⟩ := tree_of hw (Or.inl h)
  unfold o_at
  rw [rgs_nI hj, hV]
  have h0 : treeC v = some ch := by rw [e]; rfl
  show (match treeC v with | some ch => _ | none => none) = none
  rw [h0]
  dsimp only
  split
  · split
    · next e9 he => rw [if_neg (by decide), if_pos rfl]; exact nth_pow h hch he
    · rfl
  · rfl
abbrev b_M_at : ByteArray := prog_12_method_52_code
abbrev y_M_at : MethodName := ⟨"ValueTreesModel", "at", "(IIII)I"⟩
abbrev w_M_at : List Cond := .code y_M_at b_M_at 10 (Option.some .int) :: gt
theorem hd_M_at : (y_M_at).cls ≠ "java/lang/invoke/MethodHandle" ∧ (y_M_at).cls ≠ "java/lang/invoke/VarHandle" ∧ (parseMethodDescriptor (y_M_at).desc).map (fun d => d.parameters.length) = some 4 := by decide +kernel
theorem d_M_at_0 : decode b_M_at 0 = .ok (.iload_n 1, 1) := by decide +kernel
theorem d_M_at_1 : decode b_M_at 1 = .ok (.invokestatic 66, 3) := by decide +kernel
theorem d_M_at_4 : decode b_M_at 4 = .ok (.ifCond .eq 48, 3) := by decide +kernel
theorem d_M_at_7 : decode b_M_at 7 = .ok (.aload_n 0, 1) := by decide +kernel
theorem d_M_at_8 : decode b_M_at 8 = .ok (.iload_n 2, 1) := by decide +kernel
theorem d_M_at_9 : decode b_M_at 9 = .ok (.invokevirtual 124, 3) := by decide +kernel
theorem d_M_at_12 : decode b_M_at 12 = .ok (.invokestatic 136, 3) := by decide +kernel
theorem d_M_at_15 : decode b_M_at 15 = .ok (.ifCond .eq 37, 3) := by decide +kernel
theorem d_M_at_18 : decode b_M_at 18 = .ok (.iload_n 3, 1) := by decide +kernel
theorem d_M_at_19 : decode b_M_at 19 = .ok (.ifCond .lt 33, 3) := by decide +kernel
theorem d_M_at_22 : decode b_M_at 22 = .ok (.iload 4, 2) := by decide +kernel
theorem d_M_at_24 : decode b_M_at 24 = .ok (.ifCond .lt 28, 3) := by decide +kernel
theorem d_M_at_27 : decode b_M_at 27 = .ok (.iload 4, 2) := by decide +kernel
theorem d_M_at_29 : decode b_M_at 29 = .ok (.iconst 1, 1) := by decide +kernel
theorem d_M_at_30 : decode b_M_at 30 = .ok (.if_icmp .gt 22, 3) := by decide +kernel
theorem d_M_at_33 : decode b_M_at 33 = .ok (.iload 4, 2) := by decide +kernel
theorem d_M_at_35 : decode b_M_at 35 = .ok (.iconst 1, 1) := by decide +kernel
theorem d_M_at_36 : decode b_M_at 36 = .ok (.if_icmp .ne 18, 3) := by decide +kernel
theorem d_M_at_39 : decode b_M_at 39 = .ok (.aload_n 0, 1) := by decide +kernel
theorem d_M_at_40 : decode b_M_at 40 = .ok (.aload_n 0, 1) := by decide +kernel
theorem d_M_at_41 : decode b_M_at 41 = .ok (.getfield 19, 3) := by decide +kernel
theorem d_M_at_44 : decode b_M_at 44 = .ok (.iload_n 2, 1) := by decide +kernel
theorem d_M_at_45 : decode b_M_at 45 = .ok (.iaload, 1) := by decide +kernel
theorem d_M_at_46 : decode b_M_at 46 = .ok (.invokevirtual 143, 3) := by decide +kernel
theorem d_M_at_49 : decode b_M_at 49 = .ok (.ifCond .ne 5, 3) := by decide +kernel
theorem d_M_at_52 : decode b_M_at 52 = .ok (.iconst (-1), 1) := by decide +kernel
theorem d_M_at_53 : decode b_M_at 53 = .ok (.ireturn, 1) := by decide +kernel
theorem d_M_at_54 : decode b_M_at 54 = .ok (.aload_n 0, 1) := by decide +kernel
theorem d_M_at_55 : decode b_M_at 55 = .ok (.getfield 19, 3) := by decide +kernel
theorem d_M_at_58 : decode b_M_at 58 = .ok (.iload_n 2, 1) := by decide +kernel
theorem d_M_at_59 : decode b_M_at 59 = .ok (.iaload, 1) := by decide +kernel
theorem d_M_at_60 : decode b_M_at 60 = .ok (.istore 5, 2) := by decide +kernel
theorem d_M_at_62 : decode b_M_at 62 = .ok (.iload_n 2, 1) := by decide +kernel
theorem d_M_at_63 : decode b_M_at 63 = .ok (.invokestatic 112, 3) := by decide +kernel
theorem d_M_at_66 : decode b_M_at 66 = .ok (.iconst 5, 1) := by decide +kernel
theorem d_M_at_67 : decode b_M_at 67 = .ok (.iadd, 1) := by decide +kernel
theorem d_M_at_68 : decode b_M_at 68 = .ok (.istore 6, 2) := by decide +kernel
theorem d_M_at_70 : decode b_M_at 70 = .ok (.iload_n 2, 1) := by decide +kernel
theorem d_M_at_71 : decode b_M_at 71 = .ok (.invokestatic 112, 3) := by decide +kernel
theorem d_M_at_74 : decode b_M_at 74 = .ok (.aload_n 0, 1) := by decide +kernel
theorem d_M_at_75 : decode b_M_at 75 = .ok (.getfield 26, 3) := by decide +kernel
theorem d_M_at_78 : decode b_M_at 78 = .ok (.iload_n 2, 1) := by decide +kernel
theorem d_M_at_79 : decode b_M_at 79 = .ok (.iaload, 1) := by decide +kernel
theorem d_M_at_80 : decode b_M_at 80 = .ok (.iadd, 1) := by decide +kernel
theorem d_M_at_81 : decode b_M_at 81 = .ok (.istore 7, 2) := by decide +kernel
theorem d_M_at_83 : decode b_M_at 83 = .ok (.iconst 0, 1) := by decide +kernel
theorem d_M_at_84 : decode b_M_at 84 = .ok (.istore 8, 2) := by decide +kernel
theorem d_M_at_86 : decode b_M_at 86 = .ok (.iload 8, 2) := by decide +kernel
theorem d_M_at_88 : decode b_M_at 88 = .ok (.iload_n 3, 1) := by decide +kernel
theorem d_M_at_89 : decode b_M_at 89 = .ok (.if_icmp .ge 26, 3) := by decide +kernel
theorem d_M_at_92 : decode b_M_at 92 = .ok (.iload 6, 2) := by decide +kernel
theorem d_M_at_94 : decode b_M_at 94 = .ok (.iload 7, 2) := by decide +kernel
theorem d_M_at_96 : decode b_M_at 96 = .ok (.if_icmp .ge 19, 3) := by decide +kernel
theorem d_M_at_99 : decode b_M_at 99 = .ok (.aload_n 0, 1) := by decide +kernel
theorem d_M_at_100 : decode b_M_at 100 = .ok (.iload 5, 2) := by decide +kernel
theorem d_M_at_102 : decode b_M_at 102 = .ok (.iload 6, 2) := by decide +kernel
theorem d_M_at_104 : decode b_M_at 104 = .ok (.invokevirtual 152, 3) := by decide +kernel
theorem d_M_at_107 : decode b_M_at 107 = .ok (.istore 6, 2) := by decide +kernel
theorem d_M_at_109 : decode b_M_at 109 = .ok (.iinc 8 1, 3) := by decide +kernel
theorem d_M_at_112 : decode b_M_at 112 = .ok (.goto (-26), 3) := by decide +kernel
theorem d_M_at_115 : decode b_M_at 115 = .ok (.iload 6, 2) := by decide +kernel
theorem d_M_at_117 : decode b_M_at 117 = .ok (.iload 7, 2) := by decide +kernel
theorem d_M_at_119 : decode b_M_at 119 = .ok (.if_icmp .lt 5, 3) := by decide +kernel
theorem d_M_at_122 : decode b_M_at 122 = .ok (.iconst (-1), 1) := by decide +kernel
theorem d_M_at_123 : decode b_M_at 123 = .ok (.ireturn, 1) := by decide +kernel
theorem d_M_at_124 : decode b_M_at 124 = .ok (.aload_n 0, 1) := by decide +kernel
theorem d_M_at_125 : decode b_M_at 125 = .ok (.iload 5, 2) := by decide +kernel
theorem d_M_at_127 : decode b_M_at 127 = .ok (.iload 6, 2) := by decide +kernel
theorem d_M_at_129 : decode b_M_at 129 = .ok (.invokevirtual 146, 3) := by decide +kernel
theorem d_M_at_132 : decode b_M_at 132 = .ok (.istore 8, 2) := by decide +kernel
theorem d_M_at_134 : decode b_M_at 134 = .ok (.aload_n 0, 1) := by decide +kernel
theorem d_M_at_135 : decode b_M_at 135 = .ok (.aload_n 0, 1) := by decide +kernel
theorem d_M_at_136 : decode b_M_at 136 = .ok (.getfield 13, 3) := by decide +kernel
theorem d_M_at_139 : decode b_M_at 139 = .ok (.iload 5, 2) := by decide +kernel
theorem d_M_at_141 : decode b_M_at 141 = .ok (.iaload, 1) := by decide +kernel
theorem d_M_at_142 : decode b_M_at 142 = .ok (.iload 8, 2) := by decide +kernel
theorem d_M_at_144 : decode b_M_at 144 = .ok (.invokevirtual 78, 3) := by decide +kernel
theorem d_M_at_147 : decode b_M_at 147 = .ok (.istore 9, 2) := by decide +kernel
theorem d_M_at_149 : decode b_M_at 149 = .ok (.iload 4, 2) := by decide +kernel
theorem d_M_at_151 : decode b_M_at 151 = .ok (.ifCond .ne 22, 3) := by decide +kernel
theorem d_M_at_154 : decode b_M_at 154 = .ok (.aload_n 0, 1) := by decide +kernel
theorem d_M_at_155 : decode b_M_at 155 = .ok (.iload_n 1, 1) := by decide +kernel
theorem d_M_at_156 : decode b_M_at 156 = .ok (.aload_n 0, 1) := by decide +kernel
theorem d_M_at_157 : decode b_M_at 157 = .ok (.getfield 13, 3) := by decide +kernel
theorem d_M_at_160 : decode b_M_at 160 = .ok (.iload 5, 2) := by decide +kernel
theorem d_M_at_162 : decode b_M_at 162 = .ok (.iaload, 1) := by decide +kernel
theorem d_M_at_163 : decode b_M_at 163 = .ok (.iload 8, 2) := by decide +kernel
theorem d_M_at_165 : decode b_M_at 165 = .ok (.iload 9, 2) := by decide +kernel
theorem d_M_at_167 : decode b_M_at 167 = .ok (.invokevirtual 170, 3) := by decide +kernel
theorem d_M_at_170 : decode b_M_at 170 = .ok (.goto 25, 3) := by decide +kernel
theorem d_M_at_173 : decode b_M_at 173 = .ok (.aload_n 0, 1) := by decide +kernel
theorem d_M_at_174 : decode b_M_at 174 = .ok (.iload_n 1, 1) := by decide +kernel
theorem d_M_at_175 : decode b_M_at 175 = .ok (.aload_n 0, 1) := by decide +kernel
theorem d_M_at_176 : decode b_M_at 176 = .ok (.getfield 16, 3) := by decide +kernel
theorem d_M_at_179 : decode b_M_at 179 = .ok (.iload 5, 2) := by decide +kernel
theorem d_M_at_181 : decode b_M_at 181 = .ok (.iaload, 1) := by decide +kernel
theorem d_M_at_182 : decode b_M_at 182 = .ok (.iload 9, 2) := by decide +kernel
theorem d_M_at_184 : decode b_M_at 184 = .ok (.aload_n 0, 1) := by decide +kernel
theorem d_M_at_185 : decode b_M_at 185 = .ok (.iload 5, 2) := by decide +kernel
theorem d_M_at_187 : decode b_M_at 187 = .ok (.iload 6, 2) := by decide +kernel
theorem d_M_at_189 : decode b_M_at 189 = .ok (.invokevirtual 152, 3) := by decide +kernel
theorem d_M_at_192 : decode b_M_at 192 = .ok (.invokevirtual 170, 3) := by decide +kernel
theorem d_M_at_195 : decode b_M_at 195 = .ok (.ireturn, 1) := by decide +kernel
set_option maxHeartbeats 4000000 in
set_option maxRecDepth 100000 in
theorem p_M_at (l : Launch) (D : va_G) (dT : Nat → ClassId) (H : Heap) (mm : Nat → Nat) (tb : Nat → TR) (tc : Nat) (RV : Nat → Option VT) (hI : mI D dT mm tb tc RV H) (r tree i which : Int32) : Met l y_M_at w_M_at ({ frames := 210, cells := 0, slots := 0, locals := 5400 }) (z_P D dT [.ref (mm 0), .int r, .int tree, .int i, .int which] H) (z_Q (mA mm) (fun v H1 => v = some (.int (kp RV r (o_at RV tree i which)).1) ∧ mI D dT mm tb tc (kp RV r (o_at RV tree i which)).2 H1)) 0 0 (mA mm) := by
  obtain ⟨wd, lf, rt, ty, F, sz, Wk, wz, dg, dc, sh, hM, hO, hT, hR, hWk⟩ := hI
  have hF := hR.1
  have htc := hO.1
  have htc10 := hO.2.1
  refine Met.ofW (cc := b_M_at) (maxL := 10) (ret := (Option.some .int)) (by decide) rfl ?_
  intro p e s m args below meth c s₁ B hml hv
  obtain ⟨rfl, rfl, hK⟩ := hv
  have hx := B.exec
  have hb := B.bytes
  have hr := B.returns
  have hts := atoms_spec (ws := w_M_at) B.pre
  have ht : ∀ w9 ∈ gt, w9.before [.ref (mm 0), .int r, .int tree, .int i, .int which].toArray s = true := fun w9 h => hts w9 (List.mem_cons_of_mem _ h)
  have hown : s.vm.findClass "ValueTreesModel" = some m.cls := findClass_of_methodNamed B.named
  have hlocks := B.notSynchronized
  have hS : va_S (mA mm) s.heap s.heap [] := va_S.rf
  have hl := lv_entry ([.ref (mm 0), .int r, .int tree, .int i, .int which]) (n := 10) (Nat.le_of_ble_eq_true rfl)
  rw [lg_entry_eq]
  generalize (lg_sl ([.ref (mm 0), .int r, .int tree, .int i, .int which]) ++ List.replicate (10 - (lg_sl ([.ref (mm 0), .int r, .int tree, .int i, .int which])).length) Slot.unset).toArray = ls at hl ⊢
  have hl : lv_has ls 10 [(0, .ref (mm 0)), (1, .int r), (2, .int tree), (3, .int i), (4, .int which)] := hl
  refine lv_iload_n hx hb d_M_at_0 rfl (lv_at hl 1 rfl) ?_
  refine z_callR (va_runS (As := [.int r]) (rest := []) ⟨hx, hb, hml, hown, hts⟩ (c_M_isRegister l D dT _ r) ⟨callB_of 1 hts (gI gd_up gd_c q619) rfl rfl rfl (ht _ q10) (ht _ q617) hd_M_isRegister ⟨Nat.le_of_ble_eq_true rfl, Nat.le_of_ble_eq_true rfl⟩, ht _ q618⟩ (z_preS hK) rfl rfl hl.1 rfl (lv_room (Nat.le_of_ble_eq_true rfl)) d_M_at_1 ⟨Nat.zero_le _, Nat.zero_le _⟩) (fun v2 hv1 => ?_)
  have hv1 : v2 = .int (if inR r then 1 else 0) := hv1
  rcases Classical.em (inR r) with hq3 | hq3
  · rw [if_pos hq3] at hv1
    subst hv1
    refine lv_if_eq (tgt := 52) hx hb d_M_at_4 (by decide) (fun c4 => absurd c4 (by decide)) (fun _ => ?_)
    obtain ⟨j, hj, rfl⟩ := inR_of hq3
    refine lv_aload_n hx hb d_M_at_7 rfl (lv_at hl 0 rfl) ?_
    refine lv_iload_n hx hb d_M_at_8 rfl (lv_at hl 2 rfl) ?_
    refine z_callR (va_runV (C := "ValueTreesModel") (As := [.int tree]) (rest := []) ⟨hx, hb, hml, hown, hts⟩ (c_M_wordOf l D dT _ mm wd lf rt tc ty F sz Wk wz dg dc sh hM tb hO hT RV hR tree) ⟨callB_of 1 hts (gI gd_up gd_c q658) rfl rfl rfl (ht _ q10) (ht _ q655) hd_M_wordOf ⟨Nat.le_of_ble_eq_true rfl, Nat.le_of_ble_eq_true rfl⟩, ht _ q657, ht _ qs26⟩ (z_preV hK (va_recv hK.1 hM.1 (ci := 10) (q0 := 0) rfl rfl)) rfl rfl hl.1 rfl (lv_room (Nat.le_of_ble_eq_true rfl)) d_M_at_9 ⟨Nat.zero_le _, Nat.zero_le _⟩) (fun v6 hv5 => ?_)
    have hv5 : v6 = .int (match rgs RV tree with | none => -1 | some v => nI (tW (tb (vty v)))) := hv5
    cases hr7 : rgs RV tree with
    | none =>
      rw [hr7] at hv5
      subst hv5
      try dsimp only
      refine W.eq (g2 := F0 m 12 ls [.int (-1)]) rfl ?_
      refine z_callR (va_runS (As := [.int (-1)]) (rest := []) ⟨hx, hb, hml, hown, hts⟩ (c_M_isTree l D dT _ (-1)) ⟨callB_of 1 hts (gI gd_up gd_c q699) rfl rfl rfl (ht _ q10) (ht _ q697) hd_M_isTree ⟨Nat.le_of_ble_eq_true rfl, Nat.le_of_ble_eq_true rfl⟩, ht _ q698⟩ (z_preS hK) rfl rfl hl.1 rfl (lv_room (Nat.le_of_ble_eq_true rfl)) d_M_at_12 ⟨Nat.zero_le _, Nat.zero_le _⟩) (fun v11 hv10 => ?_)
      have hv10 : v11 = .int (if isTr (-1) then 1 else 0) := hv10
      rw [if_neg (by decide)] at hv10
      subst hv10
      refine lv_if_eq (tgt := 52) hx hb d_M_at_15 (by decide) (fun _ => ?_) (fun c13 => absurd c13 (by decide))
      refine lv_iconst (v := (-1)) hx hb d_M_at_52 (by decide) ?_
      refine z_iretQ hx hb hr hlocks d_M_at_53 hS (Nat.le_refl _) (Nat.le_refl _) ?_
      have eo : o_at RV tree i which = none := by unfold o_at; rw [hr7]; rfl
      rw [eo]
      exact ⟨rfl, _, _, _, _, _, _, _, _, _, _, _, hM, hO, hT, hR, hWk⟩
    | some v8 =>
      rw [hr7] at hv5
      subst hv5
      refine W.eq (g2 := F0 m 12 ls [.int (nI (tW (tb (vty v8))))]) rfl ?_
      obtain ⟨j9, hj9, rfl, hV8⟩ := rgs_some hr7
      obtain ⟨ht8, et8, hw8, es8, hn8, hf8⟩ := mR_some hR hj9 hV8
      have hwl8 := (hO.2.2 _ ht8).1
      refine z_callR (va_runS (As := [.int (nI (tW (tb (vty v8))))]) (rest := []) ⟨hx, hb, hml, hown, hts⟩ (c_M_isTree l D dT _ (nI (tW (tb (vty v8))))) ⟨callB_of 1 hts (gI gd_up gd_c q699) rfl rfl rfl (ht _ q10) (ht _ q697) hd_M_isTree ⟨Nat.le_of_ble_eq_true rfl, Nat.le_of_ble_eq_true rfl⟩, ht _ q698⟩ (z_preS hK) rfl rfl hl.1 rfl (lv_room (Nat.le_of_ble_eq_true rfl)) d_M_at_12 ⟨Nat.zero_le _, Nat.zero_le _⟩) (fun v15 hv14 => ?_)
      have hv14 : v15 = .int (if isTr (nI (tW (tb (vty v8)))) then 1 else 0) := hv14
      rcases Classical.em (isTr (nI (tW (tb (vty v8))))) with hq16 | hq16
      · rw [if_pos hq16] at hv14
        subst hv14
        refine lv_if_eq (tgt := 52) hx hb d_M_at_15 (by decide) (fun c17 => absurd c17 (by decide)) (fun _ => ?_)
        have hwd := (isTr_nI (by omega)).mp hq16
        refine lv_iload_n hx hb d_M_at_18 rfl (lv_at hl 3 rfl) ?_
        refine lv_if_lt (tgt := 52) hx hb d_M_at_19 (by decide) (fun c18 => ?_) (fun c18 => ?_)
        · refine lv_iconst (v := (-1)) hx hb d_M_at_52 (by decide) ?_
          refine z_iretQ hx hb hr hlocks d_M_at_53 hS (Nat.le_refl _) (Nat.le_refl _) ?_
          have eo : o_at RV (nI j9) i which = none := at_neg (by first | exact c18 | exact Int32.not_le.mp c18)
          rw [eo]
          exact ⟨rfl, _, _, _, _, _, _, _, _, _, _, _, hM, hO, hT, hR, hWk⟩
        · refine lv_iload hx hb d_M_at_22 (lv_at hl 4 rfl) ?_
          refine lv_if_lt (tgt := 52) hx hb d_M_at_24 (by decide) (fun c19 => ?_) (fun c19 => ?_)
          · refine lv_iconst (v := (-1)) hx hb d_M_at_52 (by decide) ?_
            refine z_iretQ hx hb hr hlocks d_M_at_53 hS (Nat.le_refl _) (Nat.le_refl _) ?_
            have eo : o_at RV (nI j9) i which = none := at_no (n01 (Or.inl c19))
            rw [eo]
            exact ⟨rfl, _, _, _, _, _, _, _, _, _, _, _, hM, hO, hT, hR, hWk⟩
          · refine lv_iload hx hb d_M_at_27 (lv_at hl 4 rfl) ?_
            refine lv_iconst (v := 1) hx hb d_M_at_29 (by decide) ?_
            refine lv_icmp_gt (tgt := 52) hx hb d_M_at_30 (by decide) (fun c20 => ?_) (fun c20 => ?_)
            · refine lv_iconst (v := (-1)) hx hb d_M_at_52 (by decide) ?_
              refine z_iretQ hx hb hr hlocks d_M_at_53 hS (Nat.le_refl _) (Nat.le_refl _) ?_
              have eo : o_at RV (nI j9) i which = none := at_no (n01 (Or.inr c20))
              rw [eo]
              exact ⟨rfl, _, _, _, _, _, _, _, _, _, _, _, hM, hO, hT, hR, hWk⟩
            · refine lv_iload hx hb d_M_at_33 (lv_at hl 4 rfl) ?_
              refine lv_iconst (v := 1) hx hb d_M_at_35 (by decide) ?_
              refine lv_icmp_ne (tgt := 54) hx hb d_M_at_36 (by decide) (fun c21 => ?_) (fun c21 => ?_)
              · have hpw := (hO.2.2 _ ht8).2.2.2.2.2.2.2.2.1
                obtain ⟨ch, ec9, hch⟩ := tree_of hw8 hwd
                have hlc : (cs v8).length = 5 + (cs ch).length := by rw [ec9, l_neg]
                have hfc : fAt F (160 * j9 + 5) (cs ch) := by have h8 := hf8; rw [ec9, f_neg] at h8; exact h8.2.2
                obtain ⟨hLk, hltk, hlpk⟩ := tl_some hO ht8 (by omega)
                have elk : lf (vty v8) = nI (lt_ tb (vty v8)) := by rw [(hT _ ht8).2.1, hLk]; rfl
                have hpk := (hO.2.2 _ (show lt_ tb (vty v8) < tc by omega)).2.2.2.2.2.2.2.2.1
                obtain ⟨ni, hni, rfl⟩ := nI_of c18
                have ew : which = 0 := (s01 c19 (Int32.not_lt.mp c20)).resolve_right (by first | exact c21 | exact fun h9 => c21 h9)
                subst ew
                refine lv_aload_n hx hb d_M_at_54 rfl (lv_at hl 0 rfl) ?_
                refine va_get (D := D) (ci := 10) (v := .ref (mm 4)) (C := "ValueTreesModel") (T := T_M) (N := 12) hx hb ht in_M hown hK.1 hM.1 0 rfl rfl 4 (by decide) (ht _ q543) (fun _ h9 => h9) rfl d_M_at_55 ?_
                refine lv_iload_n hx hb d_M_at_58 rfl (lv_at hl 2 rfl) ?_
                refine z_iald hx hb hK (hM.1 4 _ rfl) j9 rfl (by omega) (by decide) d_M_at_59 ?_
                rw [et8]
                refine lv_istore (lv' := [(5, .int (nI (vty v8))), (0, .ref (mm 0)), (1, .int (nI j)), (2, .int (nI j9)), (3, .int (nI ni)), (4, .int 0)]) hx hb d_M_at_60 hl (by decide) rfl (fun ls hl => ?_)
                refine lv_iload_n hx hb d_M_at_62 rfl (lv_at hl 3 rfl) ?_
                refine z_callR (va_runS (As := [.int (nI j9)]) (rest := []) ⟨hx, hb, hml, hown, hts⟩ (c_M_base l D dT _ (nI j9)) ⟨callB_of 1 hts (gI gd_up gd_c q650) rfl rfl rfl (ht _ q10) (ht _ q648) hd_M_base ⟨Nat.le_of_ble_eq_true rfl, Nat.le_of_ble_eq_true rfl⟩, ht _ q649⟩ (z_preS hK) rfl rfl hl.1 rfl (lv_room (Nat.le_of_ble_eq_true rfl)) d_M_at_63 ⟨Nat.zero_le _, Nat.zero_le _⟩) (fun v23 hv22 => ?_)
                subst hv22
                rw [show (160 * nI j9 : Int32) = nI (160 * j9) from pk_mul 160 j9]
                refine lv_iconst (v := 5) hx hb d_M_at_66 (by decide) ?_
                refine lv_iadd hx hb d_M_at_67 ?_
                rw [show (((nI (160 * j9)) + 5) : Int32) = nI ((160 * j9) + 5) from nI_add (160 * j9) 5]
                refine lv_istore (lv' := [(6, .int (nI ((160 * j9) + 5))), (5, .int (nI (vty v8))), (0, .ref (mm 0)), (1, .int (nI j)), (2, .int (nI j9)), (3, .int (nI ni)), (4, .int 0)]) hx hb d_M_at_68 hl (by decide) rfl (fun ls hl => ?_)
                refine lv_iload_n hx hb d_M_at_70 rfl (lv_at hl 4 rfl) ?_
                refine z_callR (va_runS (As := [.int (nI j9)]) (rest := []) ⟨hx, hb, hml, hown, hts⟩ (c_M_base l D dT _ (nI j9)) ⟨callB_of 1 hts (gI gd_up gd_c q650) rfl rfl rfl (ht _ q10) (ht _ q648) hd_M_base ⟨Nat.le_of_ble_eq_true rfl, Nat.le_of_ble_eq_true rfl⟩, ht _ q649⟩ (z_preS hK) rfl rfl hl.1 rfl (lv_room (Nat.le_of_ble_eq_true rfl)) d_M_at_71 ⟨Nat.zero_le _, Nat.zero_le _⟩) (fun v25 hv24 => ?_)
                subst hv24
                rw [show (160 * nI j9 : Int32) = nI (160 * j9) from pk_mul 160 j9]
                refine lv_aload_n hx hb d_M_at_74 rfl (lv_at hl 2 rfl) ?_
                refine va_get (D := D) (ci := 10) (v := .ref (mm 6)) (C := "ValueTreesModel") (T := T_M) (N := 12) hx hb ht in_M hown hK.1 hM.1 0 rfl rfl 6 (by decide) (ht _ q545) (fun _ h9 => h9) rfl d_M_at_75 ?_
                refine lv_iload_n hx hb d_M_at_78 rfl (lv_at hl 4 rfl) ?_
                refine z_iald hx hb hK (hM.1 6 _ rfl) j9 rfl (by omega) (by decide) d_M_at_79 ?_
                rw [es8]
                refine lv_iadd hx hb d_M_at_80 ?_
                rw [show (((nI (160 * j9)) + (nI (cs v8).length)) : Int32) = nI ((160 * j9) + ((cs v8).length)) from nI_add (160 * j9) ((cs v8).length)]
                refine lv_istore (lv' := [(7, .int (nI ((160 * j9) + ((cs v8).length)))), (6, .int (nI ((160 * j9) + 5))), (5, .int (nI (vty v8))), (0, .ref (mm 0)), (1, .int (nI j)), (2, .int (nI j9)), (3, .int (nI ni)), (4, .int 0)]) hx hb d_M_at_81 hl (by decide) rfl (fun ls hl => ?_)
                refine lv_iconst (v := 0) hx hb d_M_at_83 (by decide) ?_
                refine lv_istore (lv' := [(8, .int 0), (7, .int (nI ((160 * j9) + ((cs v8).length)))), (6, .int (nI ((160 * j9) + 5))), (5, .int (nI (vty v8))), (0, .ref (mm 0)), (1, .int (nI j)), (2, .int (nI j9)), (3, .int (nI ni)), (4, .int 0)]) hx hb d_M_at_84 hl (by decide) rfl (fun ls hl => ?_)
                have loop26 : ∀ (n869 : Nat) (rem : VT) (q : Nat) (m9 : Nat), (wty tb rem (cmd tb (vty v8)) (vty v8)) → (q + (cs rem).length = (cs ch).length) → (fAt F (160 * j9 + 5 + q) (cs rem)) → (m9 ≤ ni) → (nthE ch ni = nthE rem (ni - m9)) → (cs rem).length < n869 → ∀ (ls : Array Slot), lv_has ls 10 [(8, .int (nI m9)), (6, .int (nI (160 * j9 + 5 + q))), (7, .int (nI (160 * j9 + (cs v8).length))), (5, .int (nI (vty v8))), (0, .ref (mm 0)), (1, .int (nI j)), (2, .int (nI j9)), (3, .int (nI ni)), (4, .int 0)] → W p l e (headSpec w_M_at ({ frames := 210, cells := 0, slots := 0, locals := 5400 })).room s m [.ref (mm 0), .int (nI j), .int (nI j9), .int (nI ni), .int 0].toArray below meth c s.heap [] 0 0 (MQ below (z_Q (mA mm) (fun v H1 => v = some (.int (kp RV (nI j) (o_at RV (nI j9) (nI ni) 0)).1) ∧ mI D dT mm tb tc (kp RV (nI j) (o_at RV (nI j9) (nI ni) 0)).2 H1)) [.ref (mm 0), .int (nI j), .int (nI j9), .int (nI ni), .int 0].toArray s 0 0 (mA mm)) (F0 m 86 ls []) := by
                  intro n869
                  induction n869 with
                  | zero =>
                    intro rem q m9 hrem hq hfr hm9 hnt h869
                    exact absurd h869 (Nat.not_lt_zero _)
                  | succ n869 ih86 =>
                    intro rem q m9 hrem hq hfr hm9 hnt h869  ls hl
                    refine lv_iload hx hb d_M_at_86 (lv_at hl 0 rfl) ?_
                    refine lv_iload_n hx hb d_M_at_88 rfl (lv_at hl 7 rfl) ?_
                    refine lv_icmp_ge (tgt := 115) hx hb d_M_at_89 (by decide) (fun c27 => ?_) (fun c27 => ?_)
                    · have nc27 : ni ≤ m9 := (nI_leI (a := ni) (b := m9) (by omega) (by omega)).mp c27
                      refine lv_iload hx hb d_M_at_115 (lv_at hl 1 rfl) ?_
                      refine lv_iload hx hb d_M_at_117 (lv_at hl 2 rfl) ?_
                      refine lv_icmp_lt (tgt := 124) hx hb d_M_at_119 (by decide) (fun c28 => ?_) (fun c28 => ?_)
                      · have nc28 : (160 * j9 + 5 + q) < (160 * j9 + (cs v8).length) := (nI_ltI (a := (160 * j9 + 5 + q)) (b := (160 * j9 + (cs v8).length)) (by omega) (by omega)).mp c28
                        obtain ⟨z9, rfl⟩ | ⟨e9, r9, rfl, hwe, hr9⟩ := ch_cases hrem
                        · exact absurd hq (by show ¬ q + 0 = _; omega)
                        have hge9 := eb_ge hwe
                        have hlm : (cs (.mul e9 r9)).length = (eb e9).length + (cs r9).length := by rw [cs_mul, List.length_append]
                        have hfe9 : fAt F (160 * j9 + 5 + q) (eb e9) ∧ fAt F (160 * j9 + 5 + q + (eb e9).length) (cs r9) := by have h8 := hfr; rw [cs_mul, fAt_app] at h8; exact h8
                        have hfe := hfe9.1
                        have em : ni - m9 = 0 := by omega
                        rw [em] at hnt
                        have hnt : nthE ch ni = some e9 := hnt
                        obtain ⟨hw2, hkw⟩ | ⟨hw2, k9, x9, rfl, hkw, hxw⟩ := id hwe
                        · have hfk9 : fAt F (160 * j9 + 5 + q) (cs e9) := by have h8 := hfe; rw [eb_pow hkw] at h8; exact h8
                          have hlk : (eb e9).length = (cs e9).length := by rw [eb_pow hkw]
                          have hkk : kyOf e9 = e9 := (en_pow hkw).2
                          refine lv_aload_n hx hb d_M_at_124 rfl (lv_at hl 4 rfl) ?_
                          refine lv_iload hx hb d_M_at_125 (lv_at hl 3 rfl) ?_
                          refine lv_iload hx hb d_M_at_127 (lv_at hl 1 rfl) ?_
                          refine z_callR (va_runV (C := "ValueTreesModel") (As := [.int (nI (vty v8)), .int (nI (160 * j9 + 5 + q))]) (rest := []) ⟨hx, hb, hml, hown, hts⟩ (c_M_keyAt l D dT _ mm wd lf rt tc ty F sz Wk wz dg dc sh hM tb hO hT (vty v8) (160 * j9 + 5 + q) (by omega)) ⟨callB_of 2 hts (gI gd_up gd_c q735) rfl rfl rfl (ht _ q10) (ht _ q732) hd_M_keyAt ⟨Nat.le_of_ble_eq_true rfl, Nat.le_of_ble_eq_true rfl⟩, ht _ q734, ht _ qs37⟩ (z_preV hK (va_recv hK.1 hM.1 (ci := 10) (q0 := 0) rfl rfl)) rfl rfl hl.1 rfl (lv_room (Nat.le_of_ble_eq_true rfl)) d_M_at_129 ⟨Nat.zero_le _, Nat.zero_le _⟩) (fun v30 hv29 => ?_)
                          have hv29 : v30 = .int (nI (if tW (tb (vty v8)) = 12 then 160 * j9 + 5 + q else 160 * j9 + 5 + q + 2)) := hv29
                          rw [if_pos hw2] at hv29
                          subst hv29
                          refine lv_istore (lv' := [(8, .int (nI (160 * j9 + 5 + q))), (6, .int (nI (160 * j9 + 5 + q))), (7, .int (nI (160 * j9 + (cs v8).length))), (5, .int (nI (vty v8))), (0, .ref (mm 0)), (1, .int (nI j)), (2, .int (nI j9)), (3, .int (nI ni)), (4, .int 0)]) hx hb d_M_at_132 hl (by decide) rfl (fun ls hl => ?_)
                          refine lv_aload_n hx hb d_M_at_134 rfl (lv_at hl 4 rfl) ?_
                          refine lv_aload_n hx hb d_M_at_135 rfl (lv_at hl 4 rfl) ?_
                          refine va_get (D := D) (ci := 10) (v := .ref (mm 2)) (C := "ValueTreesModel") (T := T_M) (N := 12) hx hb ht in_M hown hK.1 hM.1 0 rfl rfl 1 (by decide) (ht _ q540) (fun _ h9 => h9) rfl d_M_at_136 ?_
                          refine lv_iload hx hb d_M_at_139 (lv_at hl 3 rfl) ?_
                          refine z_iald hx hb hK (hM.1 2 _ rfl) (vty v8) rfl (by omega) (by decide) d_M_at_141 ?_
                          rw [elk]
                          refine lv_iload hx hb d_M_at_142 (lv_at hl 0 rfl) ?_
                          refine z_callR (va_runV (C := "ValueTreesModel") (As := [.int (nI (lt_ tb (vty v8))), .int (nI (160 * j9 + 5 + q))]) (rest := []) ⟨hx, hb, hml, hown, hts⟩ (c_M_end l D dT _ mm wd lf rt tc ty F sz Wk wz dg dc sh hM hF tb hO hT 200 (lt_ tb (vty v8)) e9 (160 * j9 + 5 + q) (by omega) (by omega) hkw hfk9 (by omega)) ⟨callB_of 2 hts (gI gd_up gd_c q762) rfl rfl rfl (ht _ q10) (ht _ q759) hd_M_end ⟨Nat.le_of_ble_eq_true rfl, Nat.le_of_ble_eq_true rfl⟩, ht _ q761, ht _ qs43⟩ (z_preV hK (va_recv hK.1 hM.1 (ci := 10) (q0 := 0) rfl rfl)) rfl rfl hl.1 rfl (lv_room (Nat.le_of_ble_eq_true rfl)) d_M_at_144 ⟨Nat.zero_le _, Nat.zero_le _⟩) (fun v32 hv31 => ?_)
                          subst hv31
                          refine lv_istore (lv' := [(9, .int (nI (160 * j9 + 5 + q + (cs e9).length))), (8, .int (nI (160 * j9 + 5 + q))), (6, .int (nI (160 * j9 + 5 + q))), (7, .int (nI (160 * j9 + (cs v8).length))), (5, .int (nI (vty v8))), (0, .ref (mm 0)), (1, .int (nI j)), (2, .int (nI j9)), (3, .int (nI ni)), (4, .int 0)]) hx hb d_M_at_147 hl (by decide) rfl (fun ls hl => ?_)
                          refine lv_iload hx hb d_M_at_149 (lv_at hl 9 rfl) ?_
                          refine lv_if_ne (tgt := 173) hx hb d_M_at_151 (by decide) (fun c33 => absurd c33 (by decide)) (fun _ => ?_)
                          refine lv_aload_n hx hb d_M_at_154 rfl (lv_at hl 5 rfl) ?_
                          refine lv_iload_n hx hb d_M_at_155 rfl (lv_at hl 6 rfl) ?_
                          refine lv_aload_n hx hb d_M_at_156 rfl (lv_at hl 5 rfl) ?_
                          refine va_get (D := D) (ci := 10) (v := .ref (mm 2)) (C := "ValueTreesModel") (T := T_M) (N := 12) hx hb ht in_M hown hK.1 hM.1 0 rfl rfl 1 (by decide) (ht _ q540) (fun _ h9 => h9) rfl d_M_at_157 ?_
                          refine lv_iload hx hb d_M_at_160 (lv_at hl 4 rfl) ?_
                          refine z_iald hx hb hK (hM.1 2 _ rfl) (vty v8) rfl (by omega) (by decide) d_M_at_162 ?_
                          rw [elk]
                          refine lv_iload hx hb d_M_at_163 (lv_at hl 1 rfl) ?_
                          refine lv_iload hx hb d_M_at_165 (lv_at hl 0 rfl) ?_
                          rw [show 160 * j9 + 5 + q + (cs e9).length = 160 * j9 + 5 + q + (cs e9).length from (by omega)]
                          refine z_callQ (va_runV (C := "ValueTreesModel") (As := [.int (nI j), .int (nI (lt_ tb (vty v8))), .int (nI (160 * j9 + 5 + q)), .int (nI (160 * j9 + 5 + q + (cs e9).length))]) (rest := []) ⟨hx, hb, hml, hown, hts⟩ (c_M_take l D dT _ mm wd lf rt tc ty F sz Wk wz dg dc sh hM hF hWk j (lt_ tb (vty v8)) (160 * j9 + 5 + q) (cs e9) hj hfk9 (by omega) (by omega)) ⟨callB_of 4 hts (gI gd_up gd_c q790) rfl rfl rfl (ht _ q10) (ht _ q787) hd_M_take ⟨Nat.le_of_ble_eq_true rfl, Nat.le_of_ble_eq_true rfl⟩, ht _ q789, ht _ qs48⟩ (z_preV hK (va_recv hK.1 hM.1 (ci := 10) (q0 := 0) rfl rfl)) rfl rfl hl.1 rfl (lv_room (Nat.le_of_ble_eq_true rfl)) d_M_at_167 ⟨Nat.le_refl _, Nat.le_refl _⟩) hS (fun _ h9 => h9) (fun v35 H locs hv34 hz36 hf37 hS => ?_)
                          obtain ⟨r9v, er9⟩ : ∃ r9 : Int32, v35 = some (.int r9) := by obtain ⟨_, _, _, _, _, -, ⟨-, e8, -⟩ | ⟨-, e8, -⟩⟩ := hv34 <;> exact ⟨_, e8⟩
                          subst er9
                          refine W.eq (g2 := F0 m 170 ls [.int r9v]) rfl ?_
                          refine lv_goto (tgt := 195) hx hb d_M_at_170 (by decide) ?_
                          refine z_iretQ hx hb hr hlocks d_M_at_195 hS (Nat.le_refl _) (Nat.le_refl _) ?_
                          have eo : o_at RV (nI j9) (nI ni) 0 = some e9 := (at_ev hj9 hV8 ec9 hni hnt).trans (by first | rfl | exact congrArg some hkk)
                          rw [eo]
                          exact kO_done (x := e9) hv34 hO hT hR hj (by omega) hkw
                        · obtain ⟨hRk, hrtk, hrpk⟩ := tr_some hO ht8 (by omega)
                          have erk : rt (vty v8) = nI (rt_ tb (vty v8)) := by rw [(hT _ ht8).2.2, hRk]; rfl
                          have hle : (eb (.add k9 x9)).length = 2 + (cs k9).length + (cs x9).length := by show ([7, 4] ++ (cs k9 ++ cs x9)).length = _; simp; omega
                          have hfx : fAt F (160 * j9 + 5 + q) ([7, 4] ++ (cs k9 ++ cs x9)) := hfe
                          rw [fAt_app, fAt_app] at hfx
                          have hfk9 : fAt F (160 * j9 + 5 + q + 2) (cs k9) := hfx.2.1
                          have hfx9 : fAt F (160 * j9 + 5 + q + 2 + (cs k9).length) (cs x9) := hfx.2.2
                          refine lv_aload_n hx hb d_M_at_124 rfl (lv_at hl 4 rfl) ?_
                          refine lv_iload hx hb d_M_at_125 (lv_at hl 3 rfl) ?_
                          refine lv_iload hx hb d_M_at_127 (lv_at hl 1 rfl) ?_
                          refine z_callR (va_runV (C := "ValueTreesModel") (As := [.int (nI (vty v8)), .int (nI (160 * j9 + 5 + q))]) (rest := []) ⟨hx, hb, hml, hown, hts⟩ (c_M_keyAt l D dT _ mm wd lf rt tc ty F sz Wk wz dg dc sh hM tb hO hT (vty v8) (160 * j9 + 5 + q) (by omega)) ⟨callB_of 2 hts (gI gd_up gd_c q735) rfl rfl rfl (ht _ q10) (ht _ q732) hd_M_keyAt ⟨Nat.le_of_ble_eq_true rfl, Nat.le_of_ble_eq_true rfl⟩, ht _ q734, ht _ qs37⟩ (z_preV hK (va_recv hK.1 hM.1 (ci := 10) (q0 := 0) rfl rfl)) rfl rfl hl.1 rfl (lv_room (Nat.le_of_ble_eq_true rfl)) d_M_at_129 ⟨Nat.zero_le _, Nat.zero_le _⟩) (fun v39 hv38 => ?_)
                          have hv38 : v39 = .int (nI (if tW (tb (vty v8)) = 12 then 160 * j9 + 5 + q else 160 * j9 + 5 + q + 2)) := hv38
                          rw [if_neg hw2] at hv38
                          subst hv38
                          refine lv_istore (lv' := [(8, .int (nI (160 * j9 + 5 + q + 2))), (6, .int (nI (160 * j9 + 5 + q))), (7, .int (nI (160 * j9 + (cs v8).length))), (5, .int (nI (vty v8))), (0, .ref (mm 0)), (1, .int (nI j)), (2, .int (nI j9)), (3, .int (nI ni)), (4, .int 0)]) hx hb d_M_at_132 hl (by decide) rfl (fun ls hl => ?_)
                          refine lv_aload_n hx hb d_M_at_134 rfl (lv_at hl 4 rfl) ?_
                          refine lv_aload_n hx hb d_M_at_135 rfl (lv_at hl 4 rfl) ?_
                          refine va_get (D := D) (ci := 10) (v := .ref (mm 2)) (C := "ValueTreesModel") (T := T_M) (N := 12) hx hb ht in_M hown hK.1 hM.1 0 rfl rfl 1 (by decide) (ht _ q540) (fun _ h9 => h9) rfl d_M_at_136 ?_
                          refine lv_iload hx hb d_M_at_139 (lv_at hl 3 rfl) ?_
                          refine z_iald hx hb hK (hM.1 2 _ rfl) (vty v8) rfl (by omega) (by decide) d_M_at_141 ?_
                          rw [elk]
                          refine lv_iload hx hb d_M_at_142 (lv_at hl 0 rfl) ?_
                          refine z_callR (va_runV (C := "ValueTreesModel") (As := [.int (nI (lt_ tb (vty v8))), .int (nI (160 * j9 + 5 + q + 2))]) (rest := []) ⟨hx, hb, hml, hown, hts⟩ (c_M_end l D dT _ mm wd lf rt tc ty F sz Wk wz dg dc sh hM hF tb hO hT 200 (lt_ tb (vty v8)) k9 (160 * j9 + 5 + q + 2) (by omega) (by omega) hkw hfk9 (by omega)) ⟨callB_of 2 hts (gI gd_up gd_c q762) rfl rfl rfl (ht _ q10) (ht _ q759) hd_M_end ⟨Nat.le_of_ble_eq_true rfl, Nat.le_of_ble_eq_true rfl⟩, ht _ q761, ht _ qs43⟩ (z_preV hK (va_recv hK.1 hM.1 (ci := 10) (q0 := 0) rfl rfl)) rfl rfl hl.1 rfl (lv_room (Nat.le_of_ble_eq_true rfl)) d_M_at_144 ⟨Nat.zero_le _, Nat.zero_le _⟩) (fun v41 hv40 => ?_)
                          subst hv40
                          refine lv_istore (lv' := [(9, .int (nI (160 * j9 + 5 + q + 2 + (cs k9).length))), (8, .int (nI (160 * j9 + 5 + q + 2))), (6, .int (nI (160 * j9 + 5 + q))), (7, .int (nI (160 * j9 + (cs v8).length))), (5, .int (nI (vty v8))), (0, .ref (mm 0)), (1, .int (nI j)), (2, .int (nI j9)), (3, .int (nI ni)), (4, .int 0)]) hx hb d_M_at_147 hl (by decide) rfl (fun ls hl => ?_)
                          refine lv_iload hx hb d_M_at_149 (lv_at hl 9 rfl) ?_
                          refine lv_if_ne (tgt := 173) hx hb d_M_at_151 (by decide) (fun c42 => absurd c42 (by decide)) (fun _ => ?_)
                          refine lv_aload_n hx hb d_M_at_154 rfl (lv_at hl 5 rfl) ?_
                          refine lv_iload_n hx hb d_M_at_155 rfl (lv_at hl 6 rfl) ?_
                          refine lv_aload_n hx hb d_M_at_156 rfl (lv_at hl 5 rfl) ?_
                          refine va_get (D := D) (ci := 10) (v := .ref (mm 2)) (C := "ValueTreesModel") (T := T_M) (N := 12) hx hb ht in_M hown hK.1 hM.1 0 rfl rfl 1 (by decide) (ht _ q540) (fun _ h9 => h9) rfl d_M_at_157 ?_
                          refine lv_iload hx hb d_M_at_160 (lv_at hl 4 rfl) ?_
                          refine z_iald hx hb hK (hM.1 2 _ rfl) (vty v8) rfl (by omega) (by decide) d_M_at_162 ?_
                          rw [elk]
                          refine lv_iload hx hb d_M_at_163 (lv_at hl 1 rfl) ?_
                          refine lv_iload hx hb d_M_at_165 (lv_at hl 0 rfl) ?_
                          rw [show 160 * j9 + 5 + q + 2 + (cs k9).length = 160 * j9 + 5 + q + 2 + (cs k9).length from (by omega)]
                          refine z_callQ (va_runV (C := "ValueTreesModel") (As := [.int (nI j), .int (nI (lt_ tb (vty v8))), .int (nI (160 * j9 + 5 + q + 2)), .int (nI (160 * j9 + 5 + q + 2 + (cs k9).length))]) (rest := []) ⟨hx, hb, hml, hown, hts⟩ (c_M_take l D dT _ mm wd lf rt tc ty F sz Wk wz dg dc sh hM hF hWk j (lt_ tb (vty v8)) (160 * j9 + 5 + q + 2) (cs k9) hj hfk9 (by omega) (by omega)) ⟨callB_of 4 hts (gI gd_up gd_c q790) rfl rfl rfl (ht _ q10) (ht _ q787) hd_M_take ⟨Nat.le_of_ble_eq_true rfl, Nat.le_of_ble_eq_true rfl⟩, ht _ q789, ht _ qs48⟩ (z_preV hK (va_recv hK.1 hM.1 (ci := 10) (q0 := 0) rfl rfl)) rfl rfl hl.1 rfl (lv_room (Nat.le_of_ble_eq_true rfl)) d_M_at_167 ⟨Nat.le_refl _, Nat.le_refl _⟩) hS (fun _ h9 => h9) (fun v44 H locs hv43 hz45 hf46 hS => ?_)
                          obtain ⟨r9v, er9⟩ : ∃ r9 : Int32, v44 = some (.int r9) := by obtain ⟨_, _, _, _, _, -, ⟨-, e8, -⟩ | ⟨-, e8, -⟩⟩ := hv43 <;> exact ⟨_, e8⟩
                          subst er9
                          refine W.eq (g2 := F0 m 170 ls [.int r9v]) rfl ?_
                          refine lv_goto (tgt := 195) hx hb d_M_at_170 (by decide) ?_
                          refine z_iretQ hx hb hr hlocks d_M_at_195 hS (Nat.le_refl _) (Nat.le_refl _) ?_
                          have eo : o_at RV (nI j9) (nI ni) 0 = some k9 := (at_ev hj9 hV8 ec9 hni hnt).trans (by first | rfl | exact congrArg some hkk)
                          rw [eo]
                          exact kO_done (x := k9) hv43 hO hT hR hj (by omega) hkw
                      · have nc28 : ¬ (160 * j9 + 5 + q) < (160 * j9 + (cs v8).length) := fun h9 => c28 ((nI_ltI (a := (160 * j9 + 5 + q)) (b := (160 * j9 + (cs v8).length)) (by omega) (by omega)).mpr h9)
                        refine lv_iconst (v := (-1)) hx hb d_M_at_122 (by decide) ?_
                        refine z_iretQ hx hb hr hlocks d_M_at_123 hS (Nat.le_refl _) (Nat.le_refl _) ?_
                        have eo : o_at RV (nI j9) (nI ni) 0 = none := by
                          have hz9 : nthE ch ni = none := by
                            rw [hnt]
                            obtain ⟨z9, rfl⟩ | ⟨e9, r9, rfl, hwe, hr9⟩ := ch_cases hrem
                            · rfl
                            · exfalso; have h7 := eb_ge hwe; have h8 : (cs (.mul e9 r9)).length = (eb e9).length + (cs r9).length := (by rw [cs_mul, List.length_append]); omega
                          exact at_ev hj9 hV8 ec9 hni hz9
                        rw [eo]
                        exact ⟨rfl, _, _, _, _, _, _, _, _, _, _, _, hM, hO, hT, hR, hWk⟩
                    · have nc27 : ¬ ni ≤ m9 := fun h9 => c27 ((nI_leI (a := ni) (b := m9) (by omega) (by omega)).mpr h9)
                      refine lv_iload hx hb d_M_at_92 (lv_at hl 1 rfl) ?_
                      refine lv_iload hx hb d_M_at_94 (lv_at hl 2 rfl) ?_
                      refine lv_icmp_ge (tgt := 115) hx hb d_M_at_96 (by decide) (fun c47 => ?_) (fun c47 => ?_)
                      · have nc47 : (160 * j9 + (cs v8).length) ≤ (160 * j9 + 5 + q) := (nI_leI (a := (160 * j9 + (cs v8).length)) (b := (160 * j9 + 5 + q)) (by omega) (by omega)).mp c47
                        refine lv_iload hx hb d_M_at_115 (lv_at hl 1 rfl) ?_
                        refine lv_iload hx hb d_M_at_117 (lv_at hl 2 rfl) ?_
                        refine lv_icmp_lt (tgt := 124) hx hb d_M_at_119 (by decide) (fun c48 => ?_) (fun c48 => ?_)
                        · have nc48 : (160 * j9 + 5 + q) < (160 * j9 + (cs v8).length) := (nI_ltI (a := (160 * j9 + 5 + q)) (b := (160 * j9 + (cs v8).length)) (by omega) (by omega)).mp c48
                          exact absurd nc48 (by omega)
                        · have nc48 : ¬ (160 * j9 + 5 + q) < (160 * j9 + (cs v8).length) := fun h9 => c48 ((nI_ltI (a := (160 * j9 + 5 + q)) (b := (160 * j9 + (cs v8).length)) (by omega) (by omega)).mpr h9)
                          refine lv_iconst (v := (-1)) hx hb d_M_at_122 (by decide) ?_
                          refine z_iretQ hx hb hr hlocks d_M_at_123 hS (Nat.le_refl _) (Nat.le_refl _) ?_
                          have eo : o_at RV (nI j9) (nI ni) 0 = none := by
                            have hz9 : nthE ch ni = none := by
                              rw [hnt]
                              obtain ⟨z9, rfl⟩ | ⟨e9, r9, rfl, hwe, hr9⟩ := ch_cases hrem
                              · rfl
                              · exfalso; have h7 := eb_ge hwe; have h8 : (cs (.mul e9 r9)).length = (eb e9).length + (cs r9).length := (by rw [cs_mul, List.length_append]); omega
                            exact at_ev hj9 hV8 ec9 hni hz9
                          rw [eo]
                          exact ⟨rfl, _, _, _, _, _, _, _, _, _, _, _, hM, hO, hT, hR, hWk⟩
                      · have nc47 : ¬ (160 * j9 + (cs v8).length) ≤ (160 * j9 + 5 + q) := fun h9 => c47 ((nI_leI (a := (160 * j9 + (cs v8).length)) (b := (160 * j9 + 5 + q)) (by omega) (by omega)).mpr h9)
                        obtain ⟨z9, rfl⟩ | ⟨e9, r9, rfl, hwe, hr9⟩ := ch_cases hrem
                        · exact absurd hq (by show ¬ q + 0 = _; omega)
                        have hge9 := eb_ge hwe
                        have hlm : (cs (.mul e9 r9)).length = (eb e9).length + (cs r9).length := by rw [cs_mul, List.length_append]
                        have hfe9 : fAt F (160 * j9 + 5 + q) (eb e9) ∧ fAt F (160 * j9 + 5 + q + (eb e9).length) (cs r9) := by have h8 := hfr; rw [cs_mul, fAt_app] at h8; exact h8
                        have hfe := hfe9.1
                        refine lv_aload_n hx hb d_M_at_99 rfl (lv_at hl 4 rfl) ?_
                        refine lv_iload hx hb d_M_at_100 (lv_at hl 3 rfl) ?_
                        refine lv_iload hx hb d_M_at_102 (lv_at hl 1 rfl) ?_
                        refine z_callR (va_runV (C := "ValueTreesModel") (As := [.int (nI (vty v8)), .int (nI (160 * j9 + 5 + q))]) (rest := []) ⟨hx, hb, hml, hown, hts⟩ (c_M_entryEnd l D dT _ mm wd lf rt tc ty F sz Wk wz dg dc sh hM hF tb hO hT (vty v8) (160 * j9 + 5 + q) e9 (by omega) hwd hwe hfe (by omega)) ⟨callB_of 2 hts (gI gd_up gd_c q770) rfl rfl rfl (ht _ q10) (ht _ q767) hd_M_entryEnd ⟨Nat.le_of_ble_eq_true rfl, Nat.le_of_ble_eq_true rfl⟩, ht _ q769, ht _ qs45⟩ (z_preV hK (va_recv hK.1 hM.1 (ci := 10) (q0 := 0) rfl rfl)) rfl rfl hl.1 rfl (lv_room (Nat.le_of_ble_eq_true rfl)) d_M_at_104 ⟨Nat.zero_le _, Nat.zero_le _⟩) (fun v50 hv49 => ?_)
                        subst hv49
                        refine lv_istore (lv' := [(6, .int (nI (160 * j9 + 5 + q + (eb e9).length))), (8, .int (nI m9)), (7, .int (nI (160 * j9 + (cs v8).length))), (5, .int (nI (vty v8))), (0, .ref (mm 0)), (1, .int (nI j)), (2, .int (nI j9)), (3, .int (nI ni)), (4, .int 0)]) hx hb d_M_at_107 hl (by decide) rfl (fun ls hl => ?_)
                        refine lv_iinc (v := (nI (m9 + 1))) (lv' := [(8, .int (nI (m9 + 1))), (6, .int (nI (160 * j9 + 5 + q + (eb e9).length))), (7, .int (nI (160 * j9 + (cs v8).length))), (5, .int (nI (vty v8))), (0, .ref (mm 0)), (1, .int (nI j)), (2, .int (nI j9)), (3, .int (nI ni)), (4, .int 0)]) hx hb d_M_at_109 hl (k := 1) rfl (nI_1 m9) (by decide) rfl (fun ls hl => ?_)
                        refine lv_goto (tgt := 86) hx hb d_M_at_112 (by decide) ?_
                        rw [show 160 * j9 + 5 + q + (eb e9).length = 160 * j9 + 5 + (q + (eb e9).length) by omega] at hl
                        exact ih86 r9 (q + (eb e9).length) (m9 + 1) hr9 (by omega) (by rw [← Nat.add_assoc]; exact hfe9.2) (by omega) (by rw [hnt, show ni - m9 = ni - (m9 + 1) + 1 by omega]; rfl) (by omega)  ls (lv_sub hl [0, 1, 2, 3, 4, 5, 6, 7, 8] rfl)
                exact loop26 ((cs ch).length + 1) ch 0 0 hch (by omega) hfc (by omega) rfl (by omega)  ls (lv_sub hl [0, 2, 1, 3, 4, 5, 6, 7, 8] rfl)
              · refine lv_aload_n hx hb d_M_at_39 rfl (lv_at hl 0 rfl) ?_
                refine lv_aload_n hx hb d_M_at_40 rfl (lv_at hl 0 rfl) ?_
                refine va_get (D := D) (ci := 10) (v := .ref (mm 4)) (C := "ValueTreesModel") (T := T_M) (N := 12) hx hb ht in_M hown hK.1 hM.1 0 rfl rfl 4 (by decide) (ht _ q543) (fun _ h9 => h9) rfl d_M_at_41 ?_
                refine lv_iload_n hx hb d_M_at_44 rfl (lv_at hl 2 rfl) ?_
                refine z_iald hx hb hK (hM.1 4 _ rfl) j9 rfl (by omega) (by decide) d_M_at_45 ?_
                rw [et8]
                refine z_callR (va_runV (C := "ValueTreesModel") (As := [.int (nI (vty v8))]) (rest := []) ⟨hx, hb, hml, hown, hts⟩ (c_M_isKeyed l D dT _ mm wd lf rt tc ty F sz Wk wz dg dc sh hM tb hO hT (vty v8) (by omega)) ⟨callB_of 1 hts (gI gd_up gd_c q727) rfl rfl rfl (ht _ q10) (ht _ q724) hd_M_isKeyed ⟨Nat.le_of_ble_eq_true rfl, Nat.le_of_ble_eq_true rfl⟩, ht _ q726, ht _ qs35⟩ (z_preV hK (va_recv hK.1 hM.1 (ci := 10) (q0 := 0) rfl rfl)) rfl rfl hl.1 rfl (lv_room (Nat.le_of_ble_eq_true rfl)) d_M_at_46 ⟨Nat.zero_le _, Nat.zero_le _⟩) (fun v52 hv51 => ?_)
                have hv51 : v52 = .int (if ¬ tW (tb (vty v8)) = 12 then 1 else 0) := hv51
                rcases Classical.em (¬ tW (tb (vty v8)) = 12) with hq53 | hq53
                · rw [if_pos hq53] at hv51
                  subst hv51
                  refine lv_if_ne (tgt := 54) hx hb d_M_at_49 (by decide) (fun _ => ?_) (fun c54 => absurd c54 (by decide))
                  have hpw := (hO.2.2 _ ht8).2.2.2.2.2.2.2.2.1
                  obtain ⟨ch, ec9, hch⟩ := tree_of hw8 hwd
                  have hlc : (cs v8).length = 5 + (cs ch).length := by rw [ec9, l_neg]
                  have hfc : fAt F (160 * j9 + 5) (cs ch) := by have h8 := hf8; rw [ec9, f_neg] at h8; exact h8.2.2
                  obtain ⟨hLk, hltk, hlpk⟩ := tl_some hO ht8 (by omega)
                  have elk : lf (vty v8) = nI (lt_ tb (vty v8)) := by rw [(hT _ ht8).2.1, hLk]; rfl
                  have hpk := (hO.2.2 _ (show lt_ tb (vty v8) < tc by omega)).2.2.2.2.2.2.2.2.1
                  obtain ⟨ni, hni, rfl⟩ := nI_of c18
                  have hw12 := hq53
                  have ew : which = 1 := by first | exact c21 | exact Classical.not_not.mp c21
                  subst ew
                  refine lv_aload_n hx hb d_M_at_54 rfl (lv_at hl 0 rfl) ?_
                  refine va_get (D := D) (ci := 10) (v := .ref (mm 4)) (C := "ValueTreesModel") (T := T_M) (N := 12) hx hb ht in_M hown hK.1 hM.1 0 rfl rfl 4 (by decide) (ht _ q543) (fun _ h9 => h9) rfl d_M_at_55 ?_
                  refine lv_iload_n hx hb d_M_at_58 rfl (lv_at hl 2 rfl) ?_
                  refine z_iald hx hb hK (hM.1 4 _ rfl) j9 rfl (by omega) (by decide) d_M_at_59 ?_
                  rw [et8]
                  refine lv_istore (lv' := [(5, .int (nI (vty v8))), (0, .ref (mm 0)), (1, .int (nI j)), (2, .int (nI j9)), (3, .int (nI ni)), (4, .int 1)]) hx hb d_M_at_60 hl (by decide) rfl (fun ls hl => ?_)
                  refine lv_iload_n hx hb d_M_at_62 rfl (lv_at hl 3 rfl) ?_
                  refine z_callR (va_runS (As := [.int (nI j9)]) (rest := []) ⟨hx, hb, hml, hown, hts⟩ (c_M_base l D dT _ (nI j9)) ⟨callB_of 1 hts (gI gd_up gd_c q650) rfl rfl rfl (ht _ q10) (ht _ q648) hd_M_base ⟨Nat.le_of_ble_eq_true rfl, Nat.le_of_ble_eq_true rfl⟩, ht _ q649⟩ (z_preS hK) rfl rfl hl.1 rfl (lv_room (Nat.le_of_ble_eq_true rfl)) d_M_at_63 ⟨Nat.zero_le _, Nat.zero_le _⟩) (fun v56 hv55 => ?_)
                  subst hv55
                  rw [show (160 * nI j9 : Int32) = nI (160 * j9) from pk_mul 160 j9]
                  refine lv_iconst (v := 5) hx hb d_M_at_66 (by decide) ?_
                  refine lv_iadd hx hb d_M_at_67 ?_
                  rw [show (((nI (160 * j9)) + 5) : Int32) = nI ((160 * j9) + 5) from nI_add (160 * j9) 5]
                  refine lv_istore (lv' := [(6, .int (nI ((160 * j9) + 5))), (5, .int (nI (vty v8))), (0, .ref (mm 0)), (1, .int (nI j)), (2, .int (nI j9)), (3, .int (nI ni)), (4, .int 1)]) hx hb d_M_at_68 hl (by decide) rfl (fun ls hl => ?_)
                  refine lv_iload_n hx hb d_M_at_70 rfl (lv_at hl 4 rfl) ?_
                  refine z_callR (va_runS (As := [.int (nI j9)]) (rest := []) ⟨hx, hb, hml, hown, hts⟩ (c_M_base l D dT _ (nI j9)) ⟨callB_of 1 hts (gI gd_up gd_c q650) rfl rfl rfl (ht _ q10) (ht _ q648) hd_M_base ⟨Nat.le_of_ble_eq_true rfl, Nat.le_of_ble_eq_true rfl⟩, ht _ q649⟩ (z_preS hK) rfl rfl hl.1 rfl (lv_room (Nat.le_of_ble_eq_true rfl)) d_M_at_71 ⟨Nat.zero_le _, Nat.zero_le _⟩) (fun v58 hv57 => ?_)
                  subst hv57
                  rw [show (160 * nI j9 : Int32) = nI (160 * j9) from pk_mul 160 j9]
                  refine lv_aload_n hx hb d_M_at_74 rfl (lv_at hl 2 rfl) ?_
                  refine va_get (D := D) (ci := 10) (v := .ref (mm 6)) (C := "ValueTreesModel") (T := T_M) (N := 12) hx hb ht in_M hown hK.1 hM.1 0 rfl rfl 6 (by decide) (ht _ q545) (fun _ h9 => h9) rfl d_M_at_75 ?_
                  refine lv_iload_n hx hb d_M_at_78 rfl (lv_at hl 4 rfl) ?_
                  refine z_iald hx hb hK (hM.1 6 _ rfl) j9 rfl (by omega) (by decide) d_M_at_79 ?_
                  rw [es8]
                  refine lv_iadd hx hb d_M_at_80 ?_
                  rw [show (((nI (160 * j9)) + (nI (cs v8).length)) : Int32) = nI ((160 * j9) + ((cs v8).length)) from nI_add (160 * j9) ((cs v8).length)]
                  refine lv_istore (lv' := [(7, .int (nI ((160 * j9) + ((cs v8).length)))), (6, .int (nI ((160 * j9) + 5))), (5, .int (nI (vty v8))), (0, .ref (mm 0)), (1, .int (nI j)), (2, .int (nI j9)), (3, .int (nI ni)), (4, .int 1)]) hx hb d_M_at_81 hl (by decide) rfl (fun ls hl => ?_)
                  refine lv_iconst (v := 0) hx hb d_M_at_83 (by decide) ?_
                  refine lv_istore (lv' := [(8, .int 0), (7, .int (nI ((160 * j9) + ((cs v8).length)))), (6, .int (nI ((160 * j9) + 5))), (5, .int (nI (vty v8))), (0, .ref (mm 0)), (1, .int (nI j)), (2, .int (nI j9)), (3, .int (nI ni)), (4, .int 1)]) hx hb d_M_at_84 hl (by decide) rfl (fun ls hl => ?_)
                  have loop59 : ∀ (n869 : Nat) (rem : VT) (q : Nat) (m9 : Nat), (wty tb rem (cmd tb (vty v8)) (vty v8)) → (q + (cs rem).length = (cs ch).length) → (fAt F (160 * j9 + 5 + q) (cs rem)) → (m9 ≤ ni) → (nthE ch ni = nthE rem (ni - m9)) → (cs rem).length < n869 → ∀ (ls : Array Slot), lv_has ls 10 [(8, .int (nI m9)), (6, .int (nI (160 * j9 + 5 + q))), (7, .int (nI (160 * j9 + (cs v8).length))), (5, .int (nI (vty v8))), (0, .ref (mm 0)), (1, .int (nI j)), (2, .int (nI j9)), (3, .int (nI ni)), (4, .int 1)] → W p l e (headSpec w_M_at ({ frames := 210, cells := 0, slots := 0, locals := 5400 })).room s m [.ref (mm 0), .int (nI j), .int (nI j9), .int (nI ni), .int 1].toArray below meth c s.heap [] 0 0 (MQ below (z_Q (mA mm) (fun v H1 => v = some (.int (kp RV (nI j) (o_at RV (nI j9) (nI ni) 1)).1) ∧ mI D dT mm tb tc (kp RV (nI j) (o_at RV (nI j9) (nI ni) 1)).2 H1)) [.ref (mm 0), .int (nI j), .int (nI j9), .int (nI ni), .int 1].toArray s 0 0 (mA mm)) (F0 m 86 ls []) := by
                    intro n869
                    induction n869 with
                    | zero =>
                      intro rem q m9 hrem hq hfr hm9 hnt h869
                      exact absurd h869 (Nat.not_lt_zero _)
                    | succ n869 ih86 =>
                      intro rem q m9 hrem hq hfr hm9 hnt h869  ls hl
                      refine lv_iload hx hb d_M_at_86 (lv_at hl 0 rfl) ?_
                      refine lv_iload_n hx hb d_M_at_88 rfl (lv_at hl 7 rfl) ?_
                      refine lv_icmp_ge (tgt := 115) hx hb d_M_at_89 (by decide) (fun c60 => ?_) (fun c60 => ?_)
                      · have nc60 : ni ≤ m9 := (nI_leI (a := ni) (b := m9) (by omega) (by omega)).mp c60
                        refine lv_iload hx hb d_M_at_115 (lv_at hl 1 rfl) ?_
                        refine lv_iload hx hb d_M_at_117 (lv_at hl 2 rfl) ?_
                        refine lv_icmp_lt (tgt := 124) hx hb d_M_at_119 (by decide) (fun c61 => ?_) (fun c61 => ?_)
                        · have nc61 : (160 * j9 + 5 + q) < (160 * j9 + (cs v8).length) := (nI_ltI (a := (160 * j9 + 5 + q)) (b := (160 * j9 + (cs v8).length)) (by omega) (by omega)).mp c61
                          obtain ⟨z9, rfl⟩ | ⟨e9, r9, rfl, hwe, hr9⟩ := ch_cases hrem
                          · exact absurd hq (by show ¬ q + 0 = _; omega)
                          have hge9 := eb_ge hwe
                          have hlm : (cs (.mul e9 r9)).length = (eb e9).length + (cs r9).length := by rw [cs_mul, List.length_append]
                          have hfe9 : fAt F (160 * j9 + 5 + q) (eb e9) ∧ fAt F (160 * j9 + 5 + q + (eb e9).length) (cs r9) := by have h8 := hfr; rw [cs_mul, fAt_app] at h8; exact h8
                          have hfe := hfe9.1
                          have em : ni - m9 = 0 := by omega
                          rw [em] at hnt
                          have hnt : nthE ch ni = some e9 := hnt
                          obtain ⟨hw2, hkw⟩ | ⟨hw2, k9, x9, rfl, hkw, hxw⟩ := id hwe
                          · exact absurd hw2 hw12
                          · obtain ⟨hRk, hrtk, hrpk⟩ := tr_some hO ht8 (by omega)
                            have erk : rt (vty v8) = nI (rt_ tb (vty v8)) := by rw [(hT _ ht8).2.2, hRk]; rfl
                            have hle : (eb (.add k9 x9)).length = 2 + (cs k9).length + (cs x9).length := by show ([7, 4] ++ (cs k9 ++ cs x9)).length = _; simp; omega
                            have hfx : fAt F (160 * j9 + 5 + q) ([7, 4] ++ (cs k9 ++ cs x9)) := hfe
                            rw [fAt_app, fAt_app] at hfx
                            have hfk9 : fAt F (160 * j9 + 5 + q + 2) (cs k9) := hfx.2.1
                            have hfx9 : fAt F (160 * j9 + 5 + q + 2 + (cs k9).length) (cs x9) := hfx.2.2
                            refine lv_aload_n hx hb d_M_at_124 rfl (lv_at hl 4 rfl) ?_
                            refine lv_iload hx hb d_M_at_125 (lv_at hl 3 rfl) ?_
                            refine lv_iload hx hb d_M_at_127 (lv_at hl 1 rfl) ?_
                            refine z_callR (va_runV (C := "ValueTreesModel") (As := [.int (nI (vty v8)), .int (nI (160 * j9 + 5 + q))]) (rest := []) ⟨hx, hb, hml, hown, hts⟩ (c_M_keyAt l D dT _ mm wd lf rt tc ty F sz Wk wz dg dc sh hM tb hO hT (vty v8) (160 * j9 + 5 + q) (by omega)) ⟨callB_of 2 hts (gI gd_up gd_c q735) rfl rfl rfl (ht _ q10) (ht _ q732) hd_M_keyAt ⟨Nat.le_of_ble_eq_true rfl, Nat.le_of_ble_eq_true rfl⟩, ht _ q734, ht _ qs37⟩ (z_preV hK (va_recv hK.1 hM.1 (ci := 10) (q0 := 0) rfl rfl)) rfl rfl hl.1 rfl (lv_room (Nat.le_of_ble_eq_true rfl)) d_M_at_129 ⟨Nat.zero_le _, Nat.zero_le _⟩) (fun v63 hv62 => ?_)
                            have hv62 : v63 = .int (nI (if tW (tb (vty v8)) = 12 then 160 * j9 + 5 + q else 160 * j9 + 5 + q + 2)) := hv62
                            rw [if_neg hw2] at hv62
                            subst hv62
                            refine lv_istore (lv' := [(8, .int (nI (160 * j9 + 5 + q + 2))), (6, .int (nI (160 * j9 + 5 + q))), (7, .int (nI (160 * j9 + (cs v8).length))), (5, .int (nI (vty v8))), (0, .ref (mm 0)), (1, .int (nI j)), (2, .int (nI j9)), (3, .int (nI ni)), (4, .int 1)]) hx hb d_M_at_132 hl (by decide) rfl (fun ls hl => ?_)
                            refine lv_aload_n hx hb d_M_at_134 rfl (lv_at hl 4 rfl) ?_
                            refine lv_aload_n hx hb d_M_at_135 rfl (lv_at hl 4 rfl) ?_
                            refine va_get (D := D) (ci := 10) (v := .ref (mm 2)) (C := "ValueTreesModel") (T := T_M) (N := 12) hx hb ht in_M hown hK.1 hM.1 0 rfl rfl 1 (by decide) (ht _ q540) (fun _ h9 => h9) rfl d_M_at_136 ?_
                            refine lv_iload hx hb d_M_at_139 (lv_at hl 3 rfl) ?_
                            refine z_iald hx hb hK (hM.1 2 _ rfl) (vty v8) rfl (by omega) (by decide) d_M_at_141 ?_
                            rw [elk]
                            refine lv_iload hx hb d_M_at_142 (lv_at hl 0 rfl) ?_
                            refine z_callR (va_runV (C := "ValueTreesModel") (As := [.int (nI (lt_ tb (vty v8))), .int (nI (160 * j9 + 5 + q + 2))]) (rest := []) ⟨hx, hb, hml, hown, hts⟩ (c_M_end l D dT _ mm wd lf rt tc ty F sz Wk wz dg dc sh hM hF tb hO hT 200 (lt_ tb (vty v8)) k9 (160 * j9 + 5 + q + 2) (by omega) (by omega) hkw hfk9 (by omega)) ⟨callB_of 2 hts (gI gd_up gd_c q762) rfl rfl rfl (ht _ q10) (ht _ q759) hd_M_end ⟨Nat.le_of_ble_eq_true rfl, Nat.le_of_ble_eq_true rfl⟩, ht _ q761, ht _ qs43⟩ (z_preV hK (va_recv hK.1 hM.1 (ci := 10) (q0 := 0) rfl rfl)) rfl rfl hl.1 rfl (lv_room (Nat.le_of_ble_eq_true rfl)) d_M_at_144 ⟨Nat.zero_le _, Nat.zero_le _⟩) (fun v65 hv64 => ?_)
                            subst hv64
                            refine lv_istore (lv' := [(9, .int (nI (160 * j9 + 5 + q + 2 + (cs k9).length))), (8, .int (nI (160 * j9 + 5 + q + 2))), (6, .int (nI (160 * j9 + 5 + q))), (7, .int (nI (160 * j9 + (cs v8).length))), (5, .int (nI (vty v8))), (0, .ref (mm 0)), (1, .int (nI j)), (2, .int (nI j9)), (3, .int (nI ni)), (4, .int 1)]) hx hb d_M_at_147 hl (by decide) rfl (fun ls hl => ?_)
                            refine lv_iload hx hb d_M_at_149 (lv_at hl 9 rfl) ?_
                            refine lv_if_ne (tgt := 173) hx hb d_M_at_151 (by decide) (fun _ => ?_) (fun c66 => absurd c66 (by decide))
                            refine lv_aload_n hx hb d_M_at_173 rfl (lv_at hl 5 rfl) ?_
                            refine lv_iload_n hx hb d_M_at_174 rfl (lv_at hl 6 rfl) ?_
                            refine lv_aload_n hx hb d_M_at_175 rfl (lv_at hl 5 rfl) ?_
                            refine va_get (D := D) (ci := 10) (v := .ref (mm 3)) (C := "ValueTreesModel") (T := T_M) (N := 12) hx hb ht in_M hown hK.1 hM.1 0 rfl rfl 2 (by decide) (ht _ q541) (fun _ h9 => h9) rfl d_M_at_176 ?_
                            refine lv_iload hx hb d_M_at_179 (lv_at hl 4 rfl) ?_
                            refine z_iald hx hb hK (hM.1 3 _ rfl) (vty v8) rfl (by omega) (by decide) d_M_at_181 ?_
                            rw [erk]
                            refine lv_iload hx hb d_M_at_182 (lv_at hl 0 rfl) ?_
                            refine lv_aload_n hx hb d_M_at_184 rfl (lv_at hl 5 rfl) ?_
                            refine lv_iload hx hb d_M_at_185 (lv_at hl 4 rfl) ?_
                            refine lv_iload hx hb d_M_at_187 (lv_at hl 2 rfl) ?_
                            refine z_callR (va_runV (C := "ValueTreesModel") (As := [.int (nI (vty v8)), .int (nI (160 * j9 + 5 + q))]) (rest := [.int (nI (160 * j9 + 5 + q + 2 + (cs k9).length)), .int (nI (rt_ tb (vty v8))), .int (nI j), .ref (mm 0)]) ⟨hx, hb, hml, hown, hts⟩ (c_M_entryEnd l D dT _ mm wd lf rt tc ty F sz Wk wz dg dc sh hM hF tb hO hT (vty v8) (160 * j9 + 5 + q) (.add k9 x9) (by omega) hwd hwe hfe (by omega)) ⟨callB_of 2 hts (gI gd_up gd_c q770) rfl rfl rfl (ht _ q10) (ht _ q767) hd_M_entryEnd ⟨Nat.le_of_ble_eq_true rfl, Nat.le_of_ble_eq_true rfl⟩, ht _ q769, ht _ qs45⟩ (z_preV hK (va_recv hK.1 hM.1 (ci := 10) (q0 := 0) rfl rfl)) rfl rfl hl.1 rfl (lv_room (Nat.le_of_ble_eq_true rfl)) d_M_at_189 ⟨Nat.zero_le _, Nat.zero_le _⟩) (fun v68 hv67 => ?_)
                            subst hv67
                            rw [show 160 * j9 + 5 + q + (eb (.add k9 x9)).length = 160 * j9 + 5 + q + 2 + (cs k9).length + (cs x9).length from (by omega)]
                            refine z_callQ (va_runV (C := "ValueTreesModel") (As := [.int (nI j), .int (nI (rt_ tb (vty v8))), .int (nI (160 * j9 + 5 + q + 2 + (cs k9).length)), .int (nI (160 * j9 + 5 + q + 2 + (cs k9).length + (cs x9).length))]) (rest := []) ⟨hx, hb, hml, hown, hts⟩ (c_M_take l D dT _ mm wd lf rt tc ty F sz Wk wz dg dc sh hM hF hWk j (rt_ tb (vty v8)) (160 * j9 + 5 + q + 2 + (cs k9).length) (cs x9) hj hfx9 (by omega) (by omega)) ⟨callB_of 4 hts (gI gd_up gd_c q790) rfl rfl rfl (ht _ q10) (ht _ q787) hd_M_take ⟨Nat.le_of_ble_eq_true rfl, Nat.le_of_ble_eq_true rfl⟩, ht _ q789, ht _ qs48⟩ (z_preV hK (va_recv hK.1 hM.1 (ci := 10) (q0 := 0) rfl rfl)) rfl rfl hl.1 rfl (lv_room (Nat.le_of_ble_eq_true rfl)) d_M_at_192 ⟨Nat.le_refl _, Nat.le_refl _⟩) hS (fun _ h9 => h9) (fun v70 H locs hv69 hz71 hf72 hS => ?_)
                            obtain ⟨r9v, er9⟩ : ∃ r9 : Int32, v70 = some (.int r9) := by obtain ⟨_, _, _, _, _, -, ⟨-, e8, -⟩ | ⟨-, e8, -⟩⟩ := hv69 <;> exact ⟨_, e8⟩
                            subst er9
                            refine W.eq (g2 := F0 m 195 ls [.int r9v]) rfl ?_
                            refine z_iretQ hx hb hr hlocks d_M_at_195 hS (Nat.le_refl _) (Nat.le_refl _) ?_
                            have eo : o_at RV (nI j9) (nI ni) 1 = some x9 := (at_ev hj9 hV8 ec9 hni hnt).trans (by first | rfl | exact congrArg some hkk)
                            rw [eo]
                            exact kO_done (x := x9) hv69 hO hT hR hj (by omega) hxw
                        · have nc61 : ¬ (160 * j9 + 5 + q) < (160 * j9 + (cs v8).length) := fun h9 => c61 ((nI_ltI (a := (160 * j9 + 5 + q)) (b := (160 * j9 + (cs v8).length)) (by omega) (by omega)).mpr h9)
                          refine lv_iconst (v := (-1)) hx hb d_M_at_122 (by decide) ?_
                          refine z_iretQ hx hb hr hlocks d_M_at_123 hS (Nat.le_refl _) (Nat.le_refl _) ?_
                          have eo : o_at RV (nI j9) (nI ni) 1 = none := by
                            have hz9 : nthE ch ni = none := by
                              rw [hnt]
                              obtain ⟨z9, rfl⟩ | ⟨e9, r9, rfl, hwe, hr9⟩ := ch_cases hrem
                              · rfl
                              · exfalso; have h7 := eb_ge hwe; have h8 : (cs (.mul e9 r9)).length = (eb e9).length + (cs r9).length := (by rw [cs_mul, List.length_append]); omega
                            exact at_ev hj9 hV8 ec9 hni hz9
                          rw [eo]
                          exact ⟨rfl, _, _, _, _, _, _, _, _, _, _, _, hM, hO, hT, hR, hWk⟩
                      · have nc60 : ¬ ni ≤ m9 := fun h9 => c60 ((nI_leI (a := ni) (b := m9) (by omega) (by omega)).mpr h9)
                        refine lv_iload hx hb d_M_at_92 (lv_at hl 1 rfl) ?_
                        refine lv_iload hx hb d_M_at_94 (lv_at hl 2 rfl) ?_
                        refine lv_icmp_ge (tgt := 115) hx hb d_M_at_96 (by decide) (fun c73 => ?_) (fun c73 => ?_)
                        · have nc73 : (160 * j9 + (cs v8).length) ≤ (160 * j9 + 5 + q) := (nI_leI (a := (160 * j9 + (cs v8).length)) (b := (160 * j9 + 5 + q)) (by omega) (by omega)).mp c73
                          refine lv_iload hx hb d_M_at_115 (lv_at hl 1 rfl) ?_
                          refine lv_iload hx hb d_M_at_117 (lv_at hl 2 rfl) ?_
                          refine lv_icmp_lt (tgt := 124) hx hb d_M_at_119 (by decide) (fun c74 => ?_) (fun c74 => ?_)
                          · have nc74 : (160 * j9 + 5 + q) < (160 * j9 + (cs v8).length) := (nI_ltI (a := (160 * j9 + 5 + q)) (b := (160 * j9 + (cs v8).length)) (by omega) (by omega)).mp c74
                            exact absurd nc74 (by omega)
                          · have nc74 : ¬ (160 * j9 + 5 + q) < (160 * j9 + (cs v8).length) := fun h9 => c74 ((nI_ltI (a := (160 * j9 + 5 + q)) (b := (160 * j9 + (cs v8).length)) (by omega) (by omega)).mpr h9)
                            refine lv_iconst (v := (-1)) hx hb d_M_at_122 (by decide) ?_
                            refine z_iretQ hx hb hr hlocks d_M_at_123 hS (Nat.le_refl _) (Nat.le_refl _) ?_
                            have eo : o_at RV (nI j9) (nI ni) 1 = none := by
                              have hz9 : nthE ch ni = none := by
                                rw [hnt]
                                obtain ⟨z9, rfl⟩ | ⟨e9, r9, rfl, hwe, hr9⟩ := ch_cases hrem
                                · rfl
                                · exfalso; have h7 := eb_ge hwe; have h8 : (cs (.mul e9 r9)).length = (eb e9).length + (cs r9).length := (by rw [cs_mul, List.length_append]); omega
                              exact at_ev hj9 hV8 ec9 hni hz9
                            rw [eo]
                            exact ⟨rfl, _, _, _, _, _, _, _, _, _, _, _, hM, hO, hT, hR, hWk⟩
                        · have nc73 : ¬ (160 * j9 + (cs v8).length) ≤ (160 * j9 + 5 + q) := fun h9 => c73 ((nI_leI (a := (160 * j9 + (cs v8).length)) (b := (160 * j9 + 5 + q)) (by omega) (by omega)).mpr h9)
                          obtain ⟨z9, rfl⟩ | ⟨e9, r9, rfl, hwe, hr9⟩ := ch_cases hrem
                          · exact absurd hq (by show ¬ q + 0 = _; omega)
                          have hge9 := eb_ge hwe
                          have hlm : (cs (.mul e9 r9)).length = (eb e9).length + (cs r9).length := by rw [cs_mul, List.length_append]
                          have hfe9 : fAt F (160 * j9 + 5 + q) (eb e9) ∧ fAt F (160 * j9 + 5 + q + (eb e9).length) (cs r9) := by have h8 := hfr; rw [cs_mul, fAt_app] at h8; exact h8
                          have hfe := hfe9.1
                          refine lv_aload_n hx hb d_M_at_99 rfl (lv_at hl 4 rfl) ?_
                          refine lv_iload hx hb d_M_at_100 (lv_at hl 3 rfl) ?_
                          refine lv_iload hx hb d_M_at_102 (lv_at hl 1 rfl) ?_
                          refine z_callR (va_runV (C := "ValueTreesModel") (As := [.int (nI (vty v8)), .int (nI (160 * j9 + 5 + q))]) (rest := []) ⟨hx, hb, hml, hown, hts⟩ (c_M_entryEnd l D dT _ mm wd lf rt tc ty F sz Wk wz dg dc sh hM hF tb hO hT (vty v8) (160 * j9 + 5 + q) e9 (by omega) hwd hwe hfe (by omega)) ⟨callB_of 2 hts (gI gd_up gd_c q770) rfl rfl rfl (ht _ q10) (ht _ q767) hd_M_entryEnd ⟨Nat.le_of_ble_eq_true rfl, Nat.le_of_ble_eq_true rfl⟩, ht _ q769, ht _ qs45⟩ (z_preV hK (va_recv hK.1 hM.1 (ci := 10) (q0 := 0) rfl rfl)) rfl rfl hl.1 rfl (lv_room (Nat.le_of_ble_eq_true rfl)) d_M_at_104 ⟨Nat.zero_le _, Nat.zero_le _⟩) (fun v76 hv75 => ?_)
                          subst hv75
                          refine lv_istore (lv' := [(6, .int (nI (160 * j9 + 5 + q + (eb e9).length))), (8, .int (nI m9)), (7, .int (nI (160 * j9 + (cs v8).length))), (5, .int (nI (vty v8))), (0, .ref (mm 0)), (1, .int (nI j)), (2, .int (nI j9)), (3, .int (nI ni)), (4, .int 1)]) hx hb d_M_at_107 hl (by decide) rfl (fun ls hl => ?_)
                          refine lv_iinc (v := (nI (m9 + 1))) (lv' := [(8, .int (nI (m9 + 1))), (6, .int (nI (160 * j9 + 5 + q + (eb e9).length))), (7, .int (nI (160 * j9 + (cs v8).length))), (5, .int (nI (vty v8))), (0, .ref (mm 0)), (1, .int (nI j)), (2, .int (nI j9)), (3, .int (nI ni)), (4, .int 1)]) hx hb d_M_at_109 hl (k := 1) rfl (nI_1 m9) (by decide) rfl (fun ls hl => ?_)
                          refine lv_goto (tgt := 86) hx hb d_M_at_112 (by decide) ?_
                          rw [show 160 * j9 + 5 + q + (eb e9).length = 160 * j9 + 5 + (q + (eb e9).length) by omega] at hl
                          exact ih86 r9 (q + (eb e9).length) (m9 + 1) hr9 (by omega) (by rw [← Nat.add_assoc]; exact hfe9.2) (by omega) (by rw [hnt, show ni - m9 = ni - (m9 + 1) + 1 by omega]; rfl) (by omega)  ls (lv_sub hl [0, 1, 2, 3, 4, 5, 6, 7, 8] rfl)
                  exact loop59 ((cs ch).length + 1) ch 0 0 hch (by omega) hfc (by omega) rfl (by omega)  ls (lv_sub hl [0, 2, 1, 3, 4, 5, 6, 7, 8] rfl)
                · rw [if_neg hq53] at hv51
                  subst hv51
                  refine lv_if_ne (tgt := 54) hx hb d_M_at_49 (by decide) (fun c77 => absurd c77 (by decide)) (fun _ => ?_)
                  refine lv_iconst (v := (-1)) hx hb d_M_at_52 (by decide) ?_
                  refine z_iretQ hx hb hr hlocks d_M_at_53 hS (Nat.le_refl _) (Nat.le_refl _) ?_
                  have ew : which = 1 := by first | exact c21 | exact Classical.not_not.mp c21
                  subst ew
                  have eo : o_at RV (nI j9) i 1 = none := at_st9 hw8 hV8 hj9 (Classical.not_not.mp hq53)
                  rw [eo]
                  exact ⟨rfl, _, _, _, _, _, _, _, _, _, _, _, hM, hO, hT, hR, hWk⟩
      · rw [if_neg hq16] at hv14
        subst hv14
        refine lv_if_eq (tgt := 52) hx hb d_M_at_15 (by decide) (fun _ => ?_) (fun c78 => absurd c78 (by decide))
        refine lv_iconst (v := (-1)) hx hb d_M_at_52 (by decide) ?_
        refine z_iretQ hx hb hr hlocks d_M_at_53 hS (Nat.le_refl _) (Nat.le_refl _) ?_
        have eo : o_at RV (nI j9) i which = none := at_not hw8 hV8 hj9 (fun h9 => hq16 ((isTr_nI (by omega)).mpr h9))
        rw [eo]
        exact ⟨rfl, _, _, _, _, _, _, _, _, _, _, _, hM, hO, hT, hR, hWk⟩
  · rw [if_neg hq3] at hv1
    subst hv1
    refine lv_if_eq (tgt := 52) hx hb d_M_at_4 (by decide) (fun _ => ?_) (fun c79 => absurd c79 (by decide))
    refine lv_iconst (v := (-1)) hx hb d_M_at_52 (by decide) ?_
    refine z_iretQ hx hb hr hlocks d_M_at_53 hS (Nat.le_refl _) (Nat.le_refl _) ?_
    rw [kp_out hq3]
    exact ⟨rfl, _, _, _, _, _, _, _, _, _, _, _, hM, hO, hT, hR, hWk⟩
