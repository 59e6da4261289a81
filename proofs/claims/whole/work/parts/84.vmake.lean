abbrev b_V_number : ByteArray := prog_1_method_4_code
abbrev y_V_number : MethodName := ⟨"ValueTrees", "number", "(IIJ)I"⟩
abbrev w_V_number : List Cond := .code y_V_number b_V_number 10 (Option.some .int) :: gt
theorem hd_V_number : (y_V_number).cls ≠ "java/lang/invoke/MethodHandle" ∧ (y_V_number).cls ≠ "java/lang/invoke/VarHandle" ∧ (parseMethodDescriptor (y_V_number).desc).map (fun d => d.parameters.length) = some 3 := by decide +kernel
theorem d_V_number_0 : decode b_V_number 0 = .ok (.iload_n 2, 1) := by decide +kernel
theorem d_V_number_1 : decode b_V_number 1 = .ok (.iconst 2, 1) := by decide +kernel
theorem d_V_number_2 : decode b_V_number 2 = .ok (.if_icmp .eq 9, 3) := by decide +kernel
theorem d_V_number_5 : decode b_V_number 5 = .ok (.iload_n 2, 1) := by decide +kernel
theorem d_V_number_6 : decode b_V_number 6 = .ok (.bipush 8, 2) := by decide +kernel
theorem d_V_number_8 : decode b_V_number 8 = .ok (.if_icmp .ne 7, 3) := by decide +kernel
theorem d_V_number_11 : decode b_V_number 11 = .ok (.iconst 1, 1) := by decide +kernel
theorem d_V_number_12 : decode b_V_number 12 = .ok (.goto 4, 3) := by decide +kernel
theorem d_V_number_15 : decode b_V_number 15 = .ok (.iconst 0, 1) := by decide +kernel
theorem d_V_number_16 : decode b_V_number 16 = .ok (.istore 5, 2) := by decide +kernel
theorem d_V_number_18 : decode b_V_number 18 = .ok (.iload_n 2, 1) := by decide +kernel
theorem d_V_number_19 : decode b_V_number 19 = .ok (.iconst 3, 1) := by decide +kernel
theorem d_V_number_20 : decode b_V_number 20 = .ok (.if_icmp .eq 8, 3) := by decide +kernel
theorem d_V_number_23 : decode b_V_number 23 = .ok (.iload_n 2, 1) := by decide +kernel
theorem d_V_number_24 : decode b_V_number 24 = .ok (.iconst 4, 1) := by decide +kernel
theorem d_V_number_25 : decode b_V_number 25 = .ok (.if_icmp .ne 7, 3) := by decide +kernel
theorem d_V_number_28 : decode b_V_number 28 = .ok (.iconst 1, 1) := by decide +kernel
theorem d_V_number_29 : decode b_V_number 29 = .ok (.goto 4, 3) := by decide +kernel
theorem d_V_number_32 : decode b_V_number 32 = .ok (.iconst 0, 1) := by decide +kernel
theorem d_V_number_33 : decode b_V_number 33 = .ok (.istore 6, 2) := by decide +kernel
theorem d_V_number_35 : decode b_V_number 35 = .ok (.iload 5, 2) := by decide +kernel
theorem d_V_number_37 : decode b_V_number 37 = .ok (.ifCond .ne 16, 3) := by decide +kernel
theorem d_V_number_40 : decode b_V_number 40 = .ok (.iload 6, 2) := by decide +kernel
theorem d_V_number_42 : decode b_V_number 42 = .ok (.ifCond .eq 9, 3) := by decide +kernel
theorem d_V_number_45 : decode b_V_number 45 = .ok (.lload_n 3, 1) := by decide +kernel
theorem d_V_number_46 : decode b_V_number 46 = .ok (.lconst 0, 1) := by decide +kernel
theorem d_V_number_47 : decode b_V_number 47 = .ok (.lcmp, 1) := by decide +kernel
theorem d_V_number_48 : decode b_V_number 48 = .ok (.ifCond .ge 5, 3) := by decide +kernel
theorem d_V_number_51 : decode b_V_number 51 = .ok (.iconst (-1), 1) := by decide +kernel
theorem d_V_number_52 : decode b_V_number 52 = .ok (.ireturn, 1) := by decide +kernel
theorem d_V_number_53 : decode b_V_number 53 = .ok (.lload_n 3, 1) := by decide +kernel
theorem d_V_number_54 : decode b_V_number 54 = .ok (.lconst 0, 1) := by decide +kernel
theorem d_V_number_55 : decode b_V_number 55 = .ok (.lcmp, 1) := by decide +kernel
theorem d_V_number_56 : decode b_V_number 56 = .ok (.ifCond .ge 8, 3) := by decide +kernel
theorem d_V_number_59 : decode b_V_number 59 = .ok (.lload_n 3, 1) := by decide +kernel
theorem d_V_number_60 : decode b_V_number 60 = .ok (.lneg, 1) := by decide +kernel
theorem d_V_number_61 : decode b_V_number 61 = .ok (.goto 4, 3) := by decide +kernel
theorem d_V_number_64 : decode b_V_number 64 = .ok (.lload_n 3, 1) := by decide +kernel
theorem d_V_number_65 : decode b_V_number 65 = .ok (.lstore 7, 2) := by decide +kernel
theorem d_V_number_67 : decode b_V_number 67 = .ok (.lload 7, 2) := by decide +kernel
theorem d_V_number_69 : decode b_V_number 69 = .ok (.invokestatic 60, 3) := by decide +kernel
theorem d_V_number_72 : decode b_V_number 72 = .ok (.istore 9, 2) := by decide +kernel
theorem d_V_number_74 : decode b_V_number 74 = .ok (.aload_n 0, 1) := by decide +kernel
theorem d_V_number_75 : decode b_V_number 75 = .ok (.iload_n 1, 1) := by decide +kernel
theorem d_V_number_76 : decode b_V_number 76 = .ok (.new 64, 3) := by decide +kernel
theorem d_V_number_79 : decode b_V_number 79 = .ok (.dup, 1) := by decide +kernel
theorem d_V_number_80 : decode b_V_number 80 = .ok (.iload_n 2, 1) := by decide +kernel
theorem d_V_number_81 : decode b_V_number 81 = .ok (.lload_n 3, 1) := by decide +kernel
theorem d_V_number_82 : decode b_V_number 82 = .ok (.lconst 0, 1) := by decide +kernel
theorem d_V_number_83 : decode b_V_number 83 = .ok (.lcmp, 1) := by decide +kernel
theorem d_V_number_84 : decode b_V_number 84 = .ok (.ifCond .ge 7, 3) := by decide +kernel
theorem d_V_number_87 : decode b_V_number 87 = .ok (.iconst 1, 1) := by decide +kernel
theorem d_V_number_88 : decode b_V_number 88 = .ok (.goto 4, 3) := by decide +kernel
theorem d_V_number_91 : decode b_V_number 91 = .ok (.iconst 0, 1) := by decide +kernel
theorem d_V_number_92 : decode b_V_number 92 = .ok (.iload 9, 2) := by decide +kernel
theorem d_V_number_94 : decode b_V_number 94 = .ok (.lload 7, 2) := by decide +kernel
theorem d_V_number_96 : decode b_V_number 96 = .ok (.iload 9, 2) := by decide +kernel
theorem d_V_number_98 : decode b_V_number 98 = .ok (.invokestatic 66, 3) := by decide +kernel
theorem d_V_number_101 : decode b_V_number 101 = .ok (.invokespecial 70, 3) := by decide +kernel
theorem d_V_number_104 : decode b_V_number 104 = .ok (.invokevirtual 73, 3) := by decide +kernel
theorem d_V_number_107 : decode b_V_number 107 = .ok (.ireturn, 1) := by decide +kernel
set_option maxHeartbeats 4000000 in
set_option maxRecDepth 100000 in
theorem p_V_number (l : Launch) (D : va_G) (dT : Nat → ClassId) (H : Heap) (Bq : Nat → Prop) (vv rg li ed : Nat) (tb : Nat → TR) (tc : Nat) (RV : Nat → Option VT) (hC : cI D dT Bq vv rg li ed tb tc RV H) (hV : vOK tb tc RV) (r t : Int32) (x : Int64) : Met l y_V_number w_V_number ({ frames := 3, cells := 2, slots := 9, locals := 66 }) (z_P D dT [.ref vv, .int r, .int t, .long x] H) (z_Q (fun q => q = rg ∨ H.size ≤ q) (fun v H1 => v = some (.int (kp RV r (o_number t x)).1) ∧ cI D dT Bq vv rg li ed tb tc (kp RV r (o_number t x)).2 H1)) 2 9 (fun q => q = rg ∨ H.size ≤ q) := by
  obtain ⟨⟨hBs, hBr, hBl, hBe, hBv, hrl, hre, hle⟩, hvv, hCR, hCT⟩ := id hC
  have hO := hV.1
  have htc := hO.1
  have htc10 := hO.2.1
  refine Met.ofW (cc := b_V_number) (maxL := 10) (ret := (Option.some .int)) (by decide) rfl ?_
  intro p e s m args below meth c s₁ B hml hv
  obtain ⟨rfl, rfl, hK⟩ := hv
  have hx := B.exec
  have hb := B.bytes
  have hr := B.returns
  have hts := atoms_spec (ws := w_V_number) B.pre
  have ht : ∀ w9 ∈ gt, w9.before [.ref vv, .int r, .int t, .long x].toArray s = true := fun w9 h => hts w9 (List.mem_cons_of_mem _ h)
  have hown : s.vm.findClass "ValueTrees" = some m.cls := findClass_of_methodNamed B.named
  have hlocks := B.notSynchronized
  have hS : va_S (fun q => q = rg ∨ s.heap.size ≤ q) s.heap s.heap [] := va_S.rf
  have hl := lv_entry ([.ref vv, .int r, .int t, .long x]) (n := 10) (Nat.le_of_ble_eq_true rfl)
  rw [lg_entry_eq]
  generalize (lg_sl ([.ref vv, .int r, .int t, .long x]) ++ List.replicate (10 - (lg_sl ([.ref vv, .int r, .int t, .long x])).length) Slot.unset).toArray = ls at hl ⊢
  have hl : lv_has ls 10 [(0, .ref vv), (1, .int r), (2, .int t), (3, .long x)] := hl
  have hN : nU s.heap s.heap := nU.rf
  refine lv_iload_n hx hb d_V_number_0 rfl (lv_at hl 2 rfl) ?_
  refine lv_iconst (v := 2) hx hb d_V_number_1 (by decide) ?_
  refine lv_icmp_eq (tgt := 11) hx hb d_V_number_2 (by decide) (fun c1 => ?_) (fun c1 => ?_)
  · have et9 : t = 2 := c1
    subst et9
    refine lv_iconst (v := 1) hx hb d_V_number_11 (by decide) ?_
    refine lv_goto (tgt := 16) hx hb d_V_number_12 (by decide) ?_
    refine lv_istore (lv' := [(5, .int 1), (0, .ref vv), (1, .int r), (2, .int 2), (3, .long x)]) hx hb d_V_number_16 hl (by decide) rfl (fun ls hl => ?_)
    refine lv_iload_n hx hb d_V_number_18 rfl (lv_at hl 3 rfl) ?_
    refine lv_iconst (v := 3) hx hb d_V_number_19 (by decide) ?_
    refine lv_icmp_eq (tgt := 28) hx hb d_V_number_20 (by decide) (fun c2 => absurd c2 (by decide)) (fun _ => ?_)
    refine lv_iload_n hx hb d_V_number_23 rfl (lv_at hl 3 rfl) ?_
    refine lv_iconst (v := 4) hx hb d_V_number_24 (by decide) ?_
    refine lv_icmp_ne (tgt := 32) hx hb d_V_number_25 (by decide) (fun _ => ?_) (fun c3 => absurd c3 (by decide))
    refine lv_iconst (v := 0) hx hb d_V_number_32 (by decide) ?_
    refine lv_istore (lv' := [(6, .int 0), (5, .int 1), (0, .ref vv), (1, .int r), (2, .int 2), (3, .long x)]) hx hb d_V_number_33 hl (by decide) rfl (fun ls hl => ?_)
    refine lv_iload hx hb d_V_number_35 (lv_at hl 1 rfl) ?_
    refine lv_if_ne (tgt := 53) hx hb d_V_number_37 (by decide) (fun _ => ?_) (fun c4 => absurd c4 (by decide))
    refine lv_lload_n hx hb d_V_number_53 rfl (lv_at hl 5 rfl) ?_
    refine lv_lconst (v := 0) hx hb d_V_number_54 (by decide) ?_
    refine z_lcmp hx hb d_V_number_55 ?_
    refine lv_if_ge (tgt := 64) hx hb d_V_number_56 (by decide) (fun c5 => ?_) (fun c5 => ?_)
    · have hpos : ¬ x < 0 := lc_ge.mp c5
      have hsz := pos64 hpos
      refine lv_lload_n hx hb d_V_number_64 rfl (lv_at hl 5 rfl) ?_
      refine lv_lstore (lv' := [(7, .long x), (6, .int 0), (5, .int 1), (0, .ref vv), (1, .int r), (2, .int 2), (3, .long x)]) hx hb d_V_number_65 hl (by decide) rfl (fun ls hl => ?_)
      refine lv_lload hx hb d_V_number_67 (lv_at hl 0 rfl) ?_
      refine z_callR (va_runS (As := [.long x]) (rest := []) ⟨hx, hb, hml, hown, hts⟩ (c_V_bitsOf l D dT _ x) ⟨callB_of 1 hts (gI gd_up gd_c q204) rfl rfl rfl (ht _ q1) (ht _ q202) hd_V_bitsOf ⟨Nat.le_of_ble_eq_true rfl, Nat.le_of_ble_eq_true rfl⟩, ht _ q203⟩ (z_preS hK) rfl rfl hl.1 rfl (lv_room (Nat.le_of_ble_eq_true rfl)) d_V_number_69 ⟨Nat.zero_le _, Nat.zero_le _⟩) (fun v7 hv6 => ?_)
      have hv6 : v7 = .int (nI (nb x.toInt.natAbs)) := by rw [← hsz]; exact hv6
      subst hv6
      refine lv_istore (lv' := [(9, .int (nI (nb x.toInt.natAbs))), (7, .long x), (6, .int 0), (5, .int 1), (0, .ref vv), (1, .int r), (2, .int 2), (3, .long x)]) hx hb d_V_number_72 hl (by decide) rfl (fun ls hl => ?_)
      have hn64 := nb64 x
      refine lv_aload_n hx hb d_V_number_74 rfl (lv_at hl 4 rfl) ?_
      refine lv_iload_n hx hb d_V_number_75 rfl (lv_at hl 5 rfl) ?_
      have hSp := hS
      refine z_newo (ci := 2) hx hb ht in_Whole ty_Whole tyk_Whole hown (ht _ q205) (ht _ q206) (ht _ q14) hK hS rfl fs_Whole (Nat.le_of_ble_eq_true rfl) (Nat.le_of_ble_eq_true rfl) d_V_number_76 (fun ad8 H hqad8 hzad8 oad8 hoad8 hS => ?_)
      have hgad8 : s.heap.size ≤ ad8 := by rw [hqad8]; exact hSp.1
      have hAad8 : (fun q => q = rg ∨ s.heap.size ≤ q) ad8 := (Or.inr hgad8)
      have hgbad8 := Nat.le_trans hN.1 (Nat.le_of_eq hqad8.symm)
      have hN := hN.grew hzad8 hoad8
      refine lv_dup hx hb d_V_number_79 rfl ?_
      refine lv_iload_n hx hb d_V_number_80 rfl (lv_at hl 6 rfl) ?_
      refine lv_lload_n hx hb d_V_number_81 rfl (lv_at hl 7 rfl) ?_
      refine lv_lconst (v := 0) hx hb d_V_number_82 (by decide) ?_
      refine z_lcmp hx hb d_V_number_83 ?_
      refine lv_if_ge (tgt := 91) hx hb d_V_number_84 (by decide) (fun c9 => ?_) (fun c9 => absurd c5 c9)
      refine lv_iconst (v := 0) hx hb d_V_number_91 (by decide) ?_
      refine lv_iload hx hb d_V_number_92 (lv_at hl 0 rfl) ?_
      refine lv_lload hx hb d_V_number_94 (lv_at hl 1 rfl) ?_
      refine lv_iload hx hb d_V_number_96 (lv_at hl 0 rfl) ?_
      refine z_callQ (va_runS (As := [.long x, .int (nI (nb x.toInt.natAbs))]) (rest := [.int (nI (nb x.toInt.natAbs)), .int 0, .int 2, .ref ad8, .ref ad8, .int r, .ref vv]) ⟨hx, hb, hml, hown, hts⟩ (c_V_digitsOf l D dT _ x x.toInt.natAbs hsz) ⟨callB_of 2 hts (gI gd_up gd_c q209) rfl rfl rfl (ht _ q1) (ht _ q207) hd_V_digitsOf ⟨Nat.le_of_ble_eq_true rfl, Nat.le_of_ble_eq_true rfl⟩, ht _ q208⟩ (z_preS hK) rfl rfl hl.1 rfl (lv_room (Nat.le_of_ble_eq_true rfl)) d_V_number_98 ⟨(Nat.le_of_ble_eq_true rfl), (Nat.le_of_ble_eq_true rfl)⟩) hS (fun _ h9 => Or.inr (Nat.le_trans hN.1 h9)) (fun v11 H locs hv10 hz12 hf13 hS => ?_)
      obtain ⟨ad14, rfl, hxad14, oad14⟩ := hv10
      have hgad14 : s.heap.size ≤ ad14 := Nat.le_trans hN.1 hxad14
      have nead8ad14 : ad8 ≠ ad14 := Nat.ne_of_lt (Nat.lt_of_lt_of_le oad8.lt hxad14)
      have oad8 := oad8.kept (hf13 _ oad8.lt (Nat.not_le.mpr oad8.lt))
      have hN := hN.call hz12 hf13 (fun x9 hx9 h9 => absurd (Nat.lt_of_lt_of_le hx9 hN.1) (Nat.not_lt.mpr h9))
      refine W.eq (g2 := F0 m 101 ls [.ref ad14, .int (nI (nb x.toInt.natAbs)), .int 0, .int 2, .ref ad8, .ref ad8, .int r, .ref vv]) rfl ?_
      refine z_callQ (va_runI (As := [.int 2, .int 0, .int (nI (nb x.toInt.natAbs)), .ref ad14]) (rest := [.ref ad8, .int r, .ref vv]) ⟨hx, hb, hml, hown, hts⟩ (c_Whole_init l D dT _ ad8 oad8 2 0 (nI (nb x.toInt.natAbs)) ad14 rfl rfl) ⟨callB_of 4 hts (gI gd_up gd_c q216) rfl rfl rfl (ht _ q14) (ht _ q214) hd_Whole_init ⟨Nat.le_of_ble_eq_true rfl, Nat.le_of_ble_eq_true rfl⟩, rfl, ht _ q215⟩ (z_preS hK) rfl rfl hl.1 rfl (lv_room (Nat.le_of_ble_eq_true rfl)) d_V_number_101 ⟨(Nat.le_of_ble_eq_true rfl), (Nat.le_of_ble_eq_true rfl)⟩) hS (fun q9 h9 => by rw [show q9 = ad8 from h9]; exact hAad8) (fun v16 H locs hv15 hz17 hf18 hS => ?_)
      obtain ⟨rfl, oad8⟩ := hv15
      have oad8 : va_at D cls (ad8, .inr (2, [.int 2, .int (2 + (nI (nb x.toInt.natAbs)) / 7), .int 0, .int (nI (nb x.toInt.natAbs)), .ref ad14])) H := oad8
      have oad14 := oad14.kept (hf18 _ oad14.lt (fun h9 => (Ne.symm nead8ad14) h9))
      have hN := hN.call hz17 hf18 (fun x hx h9 => by have h8 : x = ad8 := h9; omega)
      refine W.eq (g2 := F0 m 104 ls [.ref ad8, .int r, .ref vv]) rfl ?_
      have hz64 : x.toInt.natAbs < 2 ^ 64 := nb_lt.mp hn64
      have hzi : (if x.toInt < 0 then (1 : Int32) else 0) = 0 := if_neg (by have h9 := hpos; rw [Int64.lt_iff_toInt_lt] at h9; exact h9)
      have hwx : wty tb (.pow (.num x.toInt) 2) 0 2 := wty_num hO (by decide) (Nat.lt_trans hz64 (Nat.pow_lt_pow_right (by decide) (by decide))) (fun h9 => absurd h9 (by decide)) (fun h9 => absurd h9 (by decide))
      have hrx : rv D dT Bq H (.pow (.num x.toInt) 2) ad8 := rv_num.mpr ⟨ad14, by rw [hzi, wl_num (by omega)]; exact oad8, (fun h9 => absurd (hBs _ h9) (Nat.not_lt.mpr hgad8)), oad14, (fun h9 => absurd (hBs _ h9) (Nat.not_lt.mpr hgad14))⟩
      refine z_callQ (va_runV (C := "ValueTrees") (As := [.int r, .ref ad8]) (rest := []) ⟨hx, hb, hml, hown, hts⟩ (c_V_keep_r l D dT _ Bq vv rg li ed tb tc RV (hC.up hN) hV r (.pow (.num x.toInt) 2) 2 ad8 hwx hrx (by rw [l_num, nser_len]; omega)) ⟨callB_of 2 hts (gI gd_up gd_c q264) rfl rfl rfl (ht _ q1) (ht _ q261) hd_V_keep ⟨Nat.le_of_ble_eq_true rfl, Nat.le_of_ble_eq_true rfl⟩, ht _ q263, ht _ qs6⟩ (z_preV hK (va_recv hK.1 (z_1 (hvv.grew hN.2)) (ci := 0) (q0 := 0) rfl rfl)) rfl rfl hl.1 rfl (lv_room (Nat.le_of_ble_eq_true rfl)) d_V_number_104 ⟨(Nat.le_of_ble_eq_true rfl), (Nat.le_of_ble_eq_true rfl)⟩) hS (fun _ h9 => Or.inl h9) (fun v20 H locs hv19 hz21 hf22 hS => ?_)
      obtain ⟨rfl, hC⟩ := hv19
      refine W.eq (g2 := F0 m 107 ls [.int ((kp RV r (some (.pow (.num x.toInt) 2))).1)]) rfl ?_
      exact z_iretQ hx hb hr hlocks d_V_number_107 hS (Nat.le_of_ble_eq_true rfl) (Nat.le_of_ble_eq_true rfl) (by rw [show o_number 2 x = some (.pow (.num x.toInt) 2) from nu_o (k := 2) (by decide) (fun h9 => by decide)]; exact ⟨rfl, hC⟩)
    · have hneg : x < 0 := Decidable.not_not.mp (fun h9 => c5 (lc_ge.mpr h9))
      have hsz := neg64 hneg
      refine lv_lload_n hx hb d_V_number_59 rfl (lv_at hl 5 rfl) ?_
      refine lv_lneg hx hb d_V_number_60 ?_
      refine lv_goto (tgt := 65) hx hb d_V_number_61 (by decide) ?_
      refine lv_lstore (lv' := [(7, .long (-x)), (6, .int 0), (5, .int 1), (0, .ref vv), (1, .int r), (2, .int 2), (3, .long x)]) hx hb d_V_number_65 hl (by decide) rfl (fun ls hl => ?_)
      refine lv_lload hx hb d_V_number_67 (lv_at hl 0 rfl) ?_
      refine z_callR (va_runS (As := [.long (-x)]) (rest := []) ⟨hx, hb, hml, hown, hts⟩ (c_V_bitsOf l D dT _ (-x)) ⟨callB_of 1 hts (gI gd_up gd_c q204) rfl rfl rfl (ht _ q1) (ht _ q202) hd_V_bitsOf ⟨Nat.le_of_ble_eq_true rfl, Nat.le_of_ble_eq_true rfl⟩, ht _ q203⟩ (z_preS hK) rfl rfl hl.1 rfl (lv_room (Nat.le_of_ble_eq_true rfl)) d_V_number_69 ⟨Nat.zero_le _, Nat.zero_le _⟩) (fun v24 hv23 => ?_)
      have hv23 : v24 = .int (nI (nb x.toInt.natAbs)) := by rw [← hsz]; exact hv23
      subst hv23
      refine lv_istore (lv' := [(9, .int (nI (nb x.toInt.natAbs))), (7, .long (-x)), (6, .int 0), (5, .int 1), (0, .ref vv), (1, .int r), (2, .int 2), (3, .long x)]) hx hb d_V_number_72 hl (by decide) rfl (fun ls hl => ?_)
      have hn64 := nb64 x
      refine lv_aload_n hx hb d_V_number_74 rfl (lv_at hl 4 rfl) ?_
      refine lv_iload_n hx hb d_V_number_75 rfl (lv_at hl 5 rfl) ?_
      have hSp := hS
      refine z_newo (ci := 2) hx hb ht in_Whole ty_Whole tyk_Whole hown (ht _ q205) (ht _ q206) (ht _ q14) hK hS rfl fs_Whole (Nat.le_of_ble_eq_true rfl) (Nat.le_of_ble_eq_true rfl) d_V_number_76 (fun ad25 H hqad25 hzad25 oad25 hoad25 hS => ?_)
      have hgad25 : s.heap.size ≤ ad25 := by rw [hqad25]; exact hSp.1
      have hAad25 : (fun q => q = rg ∨ s.heap.size ≤ q) ad25 := (Or.inr hgad25)
      have hgbad25 := Nat.le_trans hN.1 (Nat.le_of_eq hqad25.symm)
      have hN := hN.grew hzad25 hoad25
      refine lv_dup hx hb d_V_number_79 rfl ?_
      refine lv_iload_n hx hb d_V_number_80 rfl (lv_at hl 6 rfl) ?_
      refine lv_lload_n hx hb d_V_number_81 rfl (lv_at hl 7 rfl) ?_
      refine lv_lconst (v := 0) hx hb d_V_number_82 (by decide) ?_
      refine z_lcmp hx hb d_V_number_83 ?_
      refine lv_if_ge (tgt := 91) hx hb d_V_number_84 (by decide) (fun c26 => absurd c26 (fun h9 => c5 h9)) (fun c26 => ?_)
      refine lv_iconst (v := 1) hx hb d_V_number_87 (by decide) ?_
      refine lv_goto (tgt := 92) hx hb d_V_number_88 (by decide) ?_
      refine lv_iload hx hb d_V_number_92 (lv_at hl 0 rfl) ?_
      refine lv_lload hx hb d_V_number_94 (lv_at hl 1 rfl) ?_
      refine lv_iload hx hb d_V_number_96 (lv_at hl 0 rfl) ?_
      refine z_callQ (va_runS (As := [.long (-x), .int (nI (nb x.toInt.natAbs))]) (rest := [.int (nI (nb x.toInt.natAbs)), .int 1, .int 2, .ref ad25, .ref ad25, .int r, .ref vv]) ⟨hx, hb, hml, hown, hts⟩ (c_V_digitsOf l D dT _ (-x) x.toInt.natAbs hsz) ⟨callB_of 2 hts (gI gd_up gd_c q209) rfl rfl rfl (ht _ q1) (ht _ q207) hd_V_digitsOf ⟨Nat.le_of_ble_eq_true rfl, Nat.le_of_ble_eq_true rfl⟩, ht _ q208⟩ (z_preS hK) rfl rfl hl.1 rfl (lv_room (Nat.le_of_ble_eq_true rfl)) d_V_number_98 ⟨(Nat.le_of_ble_eq_true rfl), (Nat.le_of_ble_eq_true rfl)⟩) hS (fun _ h9 => Or.inr (Nat.le_trans hN.1 h9)) (fun v28 H locs hv27 hz29 hf30 hS => ?_)
      obtain ⟨ad31, rfl, hxad31, oad31⟩ := hv27
      have hgad31 : s.heap.size ≤ ad31 := Nat.le_trans hN.1 hxad31
      have nead25ad31 : ad25 ≠ ad31 := Nat.ne_of_lt (Nat.lt_of_lt_of_le oad25.lt hxad31)
      have oad25 := oad25.kept (hf30 _ oad25.lt (Nat.not_le.mpr oad25.lt))
      have hN := hN.call hz29 hf30 (fun x9 hx9 h9 => absurd (Nat.lt_of_lt_of_le hx9 hN.1) (Nat.not_lt.mpr h9))
      refine W.eq (g2 := F0 m 101 ls [.ref ad31, .int (nI (nb x.toInt.natAbs)), .int 1, .int 2, .ref ad25, .ref ad25, .int r, .ref vv]) rfl ?_
      refine z_callQ (va_runI (As := [.int 2, .int 1, .int (nI (nb x.toInt.natAbs)), .ref ad31]) (rest := [.ref ad25, .int r, .ref vv]) ⟨hx, hb, hml, hown, hts⟩ (c_Whole_init l D dT _ ad25 oad25 2 1 (nI (nb x.toInt.natAbs)) ad31 rfl rfl) ⟨callB_of 4 hts (gI gd_up gd_c q216) rfl rfl rfl (ht _ q14) (ht _ q214) hd_Whole_init ⟨Nat.le_of_ble_eq_true rfl, Nat.le_of_ble_eq_true rfl⟩, rfl, ht _ q215⟩ (z_preS hK) rfl rfl hl.1 rfl (lv_room (Nat.le_of_ble_eq_true rfl)) d_V_number_101 ⟨(Nat.le_of_ble_eq_true rfl), (Nat.le_of_ble_eq_true rfl)⟩) hS (fun q9 h9 => by rw [show q9 = ad25 from h9]; exact hAad25) (fun v33 H locs hv32 hz34 hf35 hS => ?_)
      obtain ⟨rfl, oad25⟩ := hv32
      have oad25 : va_at D cls (ad25, .inr (2, [.int 2, .int (2 + (nI (nb x.toInt.natAbs)) / 7), .int 1, .int (nI (nb x.toInt.natAbs)), .ref ad31])) H := oad25
      have oad31 := oad31.kept (hf35 _ oad31.lt (fun h9 => (Ne.symm nead25ad31) h9))
      have hN := hN.call hz34 hf35 (fun x hx h9 => by have h8 : x = ad25 := h9; omega)
      refine W.eq (g2 := F0 m 104 ls [.ref ad25, .int r, .ref vv]) rfl ?_
      have hz64 : x.toInt.natAbs < 2 ^ 64 := nb_lt.mp hn64
      have hzi : (if x.toInt < 0 then (1 : Int32) else 0) = 1 := if_pos (by have h9 := hneg; rw [Int64.lt_iff_toInt_lt] at h9; exact h9)
      have hwx : wty tb (.pow (.num x.toInt) 2) 0 2 := wty_num hO (by decide) (Nat.lt_trans hz64 (Nat.pow_lt_pow_right (by decide) (by decide))) (fun h9 => absurd h9 (by decide)) (fun h9 => absurd h9 (by decide))
      have hrx : rv D dT Bq H (.pow (.num x.toInt) 2) ad25 := rv_num.mpr ⟨ad31, by rw [hzi, wl_num (by omega)]; exact oad25, (fun h9 => absurd (hBs _ h9) (Nat.not_lt.mpr hgad25)), oad31, (fun h9 => absurd (hBs _ h9) (Nat.not_lt.mpr hgad31))⟩
      refine z_callQ (va_runV (C := "ValueTrees") (As := [.int r, .ref ad25]) (rest := []) ⟨hx, hb, hml, hown, hts⟩ (c_V_keep_r l D dT _ Bq vv rg li ed tb tc RV (hC.up hN) hV r (.pow (.num x.toInt) 2) 2 ad25 hwx hrx (by rw [l_num, nser_len]; omega)) ⟨callB_of 2 hts (gI gd_up gd_c q264) rfl rfl rfl (ht _ q1) (ht _ q261) hd_V_keep ⟨Nat.le_of_ble_eq_true rfl, Nat.le_of_ble_eq_true rfl⟩, ht _ q263, ht _ qs6⟩ (z_preV hK (va_recv hK.1 (z_1 (hvv.grew hN.2)) (ci := 0) (q0 := 0) rfl rfl)) rfl rfl hl.1 rfl (lv_room (Nat.le_of_ble_eq_true rfl)) d_V_number_104 ⟨(Nat.le_of_ble_eq_true rfl), (Nat.le_of_ble_eq_true rfl)⟩) hS (fun _ h9 => Or.inl h9) (fun v37 H locs hv36 hz38 hf39 hS => ?_)
      obtain ⟨rfl, hC⟩ := hv36
      refine W.eq (g2 := F0 m 107 ls [.int ((kp RV r (some (.pow (.num x.toInt) 2))).1)]) rfl ?_
      exact z_iretQ hx hb hr hlocks d_V_number_107 hS (Nat.le_of_ble_eq_true rfl) (Nat.le_of_ble_eq_true rfl) (by rw [show o_number 2 x = some (.pow (.num x.toInt) 2) from nu_o (k := 2) (by decide) (fun h9 => by decide)]; exact ⟨rfl, hC⟩)
  · refine lv_iload_n hx hb d_V_number_5 rfl (lv_at hl 2 rfl) ?_
    refine lv_bipush (v := 8) hx hb d_V_number_6 (by decide) ?_
    refine lv_icmp_ne (tgt := 15) hx hb d_V_number_8 (by decide) (fun c40 => ?_) (fun c40 => ?_)
    · refine lv_iconst (v := 0) hx hb d_V_number_15 (by decide) ?_
      refine lv_istore (lv' := [(5, .int 0), (0, .ref vv), (1, .int r), (2, .int t), (3, .long x)]) hx hb d_V_number_16 hl (by decide) rfl (fun ls hl => ?_)
      refine lv_iload_n hx hb d_V_number_18 rfl (lv_at hl 3 rfl) ?_
      refine lv_iconst (v := 3) hx hb d_V_number_19 (by decide) ?_
      refine lv_icmp_eq (tgt := 28) hx hb d_V_number_20 (by decide) (fun c41 => ?_) (fun c41 => ?_)
      · have et9 : t = 3 := c41
        subst et9
        refine lv_iconst (v := 1) hx hb d_V_number_28 (by decide) ?_
        refine lv_goto (tgt := 33) hx hb d_V_number_29 (by decide) ?_
        refine lv_istore (lv' := [(6, .int 1), (5, .int 0), (0, .ref vv), (1, .int r), (2, .int 3), (3, .long x)]) hx hb d_V_number_33 hl (by decide) rfl (fun ls hl => ?_)
        refine lv_iload hx hb d_V_number_35 (lv_at hl 1 rfl) ?_
        refine lv_if_ne (tgt := 53) hx hb d_V_number_37 (by decide) (fun c42 => absurd c42 (by decide)) (fun _ => ?_)
        refine lv_iload hx hb d_V_number_40 (lv_at hl 0 rfl) ?_
        refine lv_if_eq (tgt := 51) hx hb d_V_number_42 (by decide) (fun c43 => absurd c43 (by decide)) (fun _ => ?_)
        refine lv_lload_n hx hb d_V_number_45 rfl (lv_at hl 5 rfl) ?_
        refine lv_lconst (v := 0) hx hb d_V_number_46 (by decide) ?_
        refine z_lcmp hx hb d_V_number_47 ?_
        refine lv_if_ge (tgt := 53) hx hb d_V_number_48 (by decide) (fun c44 => ?_) (fun c44 => ?_)
        · refine lv_lload_n hx hb d_V_number_53 rfl (lv_at hl 5 rfl) ?_
          refine lv_lconst (v := 0) hx hb d_V_number_54 (by decide) ?_
          refine z_lcmp hx hb d_V_number_55 ?_
          refine lv_if_ge (tgt := 64) hx hb d_V_number_56 (by decide) (fun c45 => ?_) (fun c45 => absurd c44 c45)
          have hpos : ¬ x < 0 := lc_ge.mp c44
          have hsz := pos64 hpos
          refine lv_lload_n hx hb d_V_number_64 rfl (lv_at hl 5 rfl) ?_
          refine lv_lstore (lv' := [(7, .long x), (6, .int 1), (5, .int 0), (0, .ref vv), (1, .int r), (2, .int 3), (3, .long x)]) hx hb d_V_number_65 hl (by decide) rfl (fun ls hl => ?_)
          refine lv_lload hx hb d_V_number_67 (lv_at hl 0 rfl) ?_
          refine z_callR (va_runS (As := [.long x]) (rest := []) ⟨hx, hb, hml, hown, hts⟩ (c_V_bitsOf l D dT _ x) ⟨callB_of 1 hts (gI gd_up gd_c q204) rfl rfl rfl (ht _ q1) (ht _ q202) hd_V_bitsOf ⟨Nat.le_of_ble_eq_true rfl, Nat.le_of_ble_eq_true rfl⟩, ht _ q203⟩ (z_preS hK) rfl rfl hl.1 rfl (lv_room (Nat.le_of_ble_eq_true rfl)) d_V_number_69 ⟨Nat.zero_le _, Nat.zero_le _⟩) (fun v47 hv46 => ?_)
          have hv46 : v47 = .int (nI (nb x.toInt.natAbs)) := by rw [← hsz]; exact hv46
          subst hv46
          refine lv_istore (lv' := [(9, .int (nI (nb x.toInt.natAbs))), (7, .long x), (6, .int 1), (5, .int 0), (0, .ref vv), (1, .int r), (2, .int 3), (3, .long x)]) hx hb d_V_number_72 hl (by decide) rfl (fun ls hl => ?_)
          have hn64 := nb64 x
          refine lv_aload_n hx hb d_V_number_74 rfl (lv_at hl 4 rfl) ?_
          refine lv_iload_n hx hb d_V_number_75 rfl (lv_at hl 5 rfl) ?_
          have hSp := hS
          refine z_newo (ci := 2) hx hb ht in_Whole ty_Whole tyk_Whole hown (ht _ q205) (ht _ q206) (ht _ q14) hK hS rfl fs_Whole (Nat.le_of_ble_eq_true rfl) (Nat.le_of_ble_eq_true rfl) d_V_number_76 (fun ad48 H hqad48 hzad48 oad48 hoad48 hS => ?_)
          have hgad48 : s.heap.size ≤ ad48 := by rw [hqad48]; exact hSp.1
          have hAad48 : (fun q => q = rg ∨ s.heap.size ≤ q) ad48 := (Or.inr hgad48)
          have hgbad48 := Nat.le_trans hN.1 (Nat.le_of_eq hqad48.symm)
          have hN := hN.grew hzad48 hoad48
          refine lv_dup hx hb d_V_number_79 rfl ?_
          refine lv_iload_n hx hb d_V_number_80 rfl (lv_at hl 6 rfl) ?_
          refine lv_lload_n hx hb d_V_number_81 rfl (lv_at hl 7 rfl) ?_
          refine lv_lconst (v := 0) hx hb d_V_number_82 (by decide) ?_
          refine z_lcmp hx hb d_V_number_83 ?_
          refine lv_if_ge (tgt := 91) hx hb d_V_number_84 (by decide) (fun c49 => ?_) (fun c49 => absurd c44 c49)
          refine lv_iconst (v := 0) hx hb d_V_number_91 (by decide) ?_
          refine lv_iload hx hb d_V_number_92 (lv_at hl 0 rfl) ?_
          refine lv_lload hx hb d_V_number_94 (lv_at hl 1 rfl) ?_
          refine lv_iload hx hb d_V_number_96 (lv_at hl 0 rfl) ?_
          refine z_callQ (va_runS (As := [.long x, .int (nI (nb x.toInt.natAbs))]) (rest := [.int (nI (nb x.toInt.natAbs)), .int 0, .int 3, .ref ad48, .ref ad48, .int r, .ref vv]) ⟨hx, hb, hml, hown, hts⟩ (c_V_digitsOf l D dT _ x x.toInt.natAbs hsz) ⟨callB_of 2 hts (gI gd_up gd_c q209) rfl rfl rfl (ht _ q1) (ht _ q207) hd_V_digitsOf ⟨Nat.le_of_ble_eq_true rfl, Nat.le_of_ble_eq_true rfl⟩, ht _ q208⟩ (z_preS hK) rfl rfl hl.1 rfl (lv_room (Nat.le_of_ble_eq_true rfl)) d_V_number_98 ⟨(Nat.le_of_ble_eq_true rfl), (Nat.le_of_ble_eq_true rfl)⟩) hS (fun _ h9 => Or.inr (Nat.le_trans hN.1 h9)) (fun v51 H locs hv50 hz52 hf53 hS => ?_)
          obtain ⟨ad54, rfl, hxad54, oad54⟩ := hv50
          have hgad54 : s.heap.size ≤ ad54 := Nat.le_trans hN.1 hxad54
          have nead48ad54 : ad48 ≠ ad54 := Nat.ne_of_lt (Nat.lt_of_lt_of_le oad48.lt hxad54)
          have oad48 := oad48.kept (hf53 _ oad48.lt (Nat.not_le.mpr oad48.lt))
          have hN := hN.call hz52 hf53 (fun x9 hx9 h9 => absurd (Nat.lt_of_lt_of_le hx9 hN.1) (Nat.not_lt.mpr h9))
          refine W.eq (g2 := F0 m 101 ls [.ref ad54, .int (nI (nb x.toInt.natAbs)), .int 0, .int 3, .ref ad48, .ref ad48, .int r, .ref vv]) rfl ?_
          refine z_callQ (va_runI (As := [.int 3, .int 0, .int (nI (nb x.toInt.natAbs)), .ref ad54]) (rest := [.ref ad48, .int r, .ref vv]) ⟨hx, hb, hml, hown, hts⟩ (c_Whole_init l D dT _ ad48 oad48 3 0 (nI (nb x.toInt.natAbs)) ad54 rfl rfl) ⟨callB_of 4 hts (gI gd_up gd_c q216) rfl rfl rfl (ht _ q14) (ht _ q214) hd_Whole_init ⟨Nat.le_of_ble_eq_true rfl, Nat.le_of_ble_eq_true rfl⟩, rfl, ht _ q215⟩ (z_preS hK) rfl rfl hl.1 rfl (lv_room (Nat.le_of_ble_eq_true rfl)) d_V_number_101 ⟨(Nat.le_of_ble_eq_true rfl), (Nat.le_of_ble_eq_true rfl)⟩) hS (fun q9 h9 => by rw [show q9 = ad48 from h9]; exact hAad48) (fun v56 H locs hv55 hz57 hf58 hS => ?_)
          obtain ⟨rfl, oad48⟩ := hv55
          have oad48 : va_at D cls (ad48, .inr (2, [.int 3, .int (2 + (nI (nb x.toInt.natAbs)) / 7), .int 0, .int (nI (nb x.toInt.natAbs)), .ref ad54])) H := oad48
          have oad54 := oad54.kept (hf58 _ oad54.lt (fun h9 => (Ne.symm nead48ad54) h9))
          have hN := hN.call hz57 hf58 (fun x hx h9 => by have h8 : x = ad48 := h9; omega)
          refine W.eq (g2 := F0 m 104 ls [.ref ad48, .int r, .ref vv]) rfl ?_
          have hz64 : x.toInt.natAbs < 2 ^ 64 := nb_lt.mp hn64
          have hzi : (if x.toInt < 0 then (1 : Int32) else 0) = 0 := if_neg (by have h9 := hpos; rw [Int64.lt_iff_toInt_lt] at h9; exact h9)
          have hwx : wty tb (.pow (.num x.toInt) 3) 0 3 := wty_num hO (by decide) (Nat.lt_trans hz64 (Nat.pow_lt_pow_right (by decide) (by decide))) (fun h9 => by have h8 := hpos; rw [Int64.lt_iff_toInt_lt] at h8; have : (0 : Int64).toInt = 0 := rfl; omega) (fun h9 => absurd h9 (by decide))
          have hrx : rv D dT Bq H (.pow (.num x.toInt) 3) ad48 := rv_num.mpr ⟨ad54, by rw [hzi, wl_num (by omega)]; exact oad48, (fun h9 => absurd (hBs _ h9) (Nat.not_lt.mpr hgad48)), oad54, (fun h9 => absurd (hBs _ h9) (Nat.not_lt.mpr hgad54))⟩
          refine z_callQ (va_runV (C := "ValueTrees") (As := [.int r, .ref ad48]) (rest := []) ⟨hx, hb, hml, hown, hts⟩ (c_V_keep_r l D dT _ Bq vv rg li ed tb tc RV (hC.up hN) hV r (.pow (.num x.toInt) 3) 3 ad48 hwx hrx (by rw [l_num, nser_len]; omega)) ⟨callB_of 2 hts (gI gd_up gd_c q264) rfl rfl rfl (ht _ q1) (ht _ q261) hd_V_keep ⟨Nat.le_of_ble_eq_true rfl, Nat.le_of_ble_eq_true rfl⟩, ht _ q263, ht _ qs6⟩ (z_preV hK (va_recv hK.1 (z_1 (hvv.grew hN.2)) (ci := 0) (q0 := 0) rfl rfl)) rfl rfl hl.1 rfl (lv_room (Nat.le_of_ble_eq_true rfl)) d_V_number_104 ⟨(Nat.le_of_ble_eq_true rfl), (Nat.le_of_ble_eq_true rfl)⟩) hS (fun _ h9 => Or.inl h9) (fun v60 H locs hv59 hz61 hf62 hS => ?_)
          obtain ⟨rfl, hC⟩ := hv59
          refine W.eq (g2 := F0 m 107 ls [.int ((kp RV r (some (.pow (.num x.toInt) 3))).1)]) rfl ?_
          exact z_iretQ hx hb hr hlocks d_V_number_107 hS (Nat.le_of_ble_eq_true rfl) (Nat.le_of_ble_eq_true rfl) (by rw [show o_number 3 x = some (.pow (.num x.toInt) 3) from nu_o (k := 3) (by decide) (fun h9 => absurd h9 hpos)]; exact ⟨rfl, hC⟩)
        · refine lv_iconst (v := (-1)) hx hb d_V_number_51 (by decide) ?_
          exact z_iretQ hx hb hr hlocks d_V_number_52 hS (Nat.le_of_ble_eq_true rfl) (Nat.le_of_ble_eq_true rfl) (by rw [show o_number 3 x = none from nu_n (k := 3) (by decide) (Decidable.not_not.mp (fun h9 => c44 (lc_ge.mpr h9)))]; exact ⟨rfl, hC⟩)
      · refine lv_iload_n hx hb d_V_number_23 rfl (lv_at hl 3 rfl) ?_
        refine lv_iconst (v := 4) hx hb d_V_number_24 (by decide) ?_
        refine lv_icmp_ne (tgt := 32) hx hb d_V_number_25 (by decide) (fun c63 => ?_) (fun c63 => ?_)
        · refine lv_iconst (v := 0) hx hb d_V_number_32 (by decide) ?_
          refine lv_istore (lv' := [(6, .int 0), (5, .int 0), (0, .ref vv), (1, .int r), (2, .int t), (3, .long x)]) hx hb d_V_number_33 hl (by decide) rfl (fun ls hl => ?_)
          refine lv_iload hx hb d_V_number_35 (lv_at hl 1 rfl) ?_
          refine lv_if_ne (tgt := 53) hx hb d_V_number_37 (by decide) (fun c64 => absurd c64 (by decide)) (fun _ => ?_)
          refine lv_iload hx hb d_V_number_40 (lv_at hl 0 rfl) ?_
          refine lv_if_eq (tgt := 51) hx hb d_V_number_42 (by decide) (fun _ => ?_) (fun c65 => absurd c65 (by decide))
          refine lv_iconst (v := (-1)) hx hb d_V_number_51 (by decide) ?_
          exact z_iretQ hx hb hr hlocks d_V_number_52 hS (Nat.le_of_ble_eq_true rfl) (Nat.le_of_ble_eq_true rfl) (by rw [nu_out c1 c40 c41 c63]; exact ⟨rfl, hC⟩)
        · have et9 : t = 4 := c63
          subst et9
          refine lv_iconst (v := 1) hx hb d_V_number_28 (by decide) ?_
          refine lv_goto (tgt := 33) hx hb d_V_number_29 (by decide) ?_
          refine lv_istore (lv' := [(6, .int 1), (5, .int 0), (0, .ref vv), (1, .int r), (2, .int 4), (3, .long x)]) hx hb d_V_number_33 hl (by decide) rfl (fun ls hl => ?_)
          refine lv_iload hx hb d_V_number_35 (lv_at hl 1 rfl) ?_
          refine lv_if_ne (tgt := 53) hx hb d_V_number_37 (by decide) (fun c66 => absurd c66 (by decide)) (fun _ => ?_)
          refine lv_iload hx hb d_V_number_40 (lv_at hl 0 rfl) ?_
          refine lv_if_eq (tgt := 51) hx hb d_V_number_42 (by decide) (fun c67 => absurd c67 (by decide)) (fun _ => ?_)
          refine lv_lload_n hx hb d_V_number_45 rfl (lv_at hl 5 rfl) ?_
          refine lv_lconst (v := 0) hx hb d_V_number_46 (by decide) ?_
          refine z_lcmp hx hb d_V_number_47 ?_
          refine lv_if_ge (tgt := 53) hx hb d_V_number_48 (by decide) (fun c68 => ?_) (fun c68 => ?_)
          · refine lv_lload_n hx hb d_V_number_53 rfl (lv_at hl 5 rfl) ?_
            refine lv_lconst (v := 0) hx hb d_V_number_54 (by decide) ?_
            refine z_lcmp hx hb d_V_number_55 ?_
            refine lv_if_ge (tgt := 64) hx hb d_V_number_56 (by decide) (fun c69 => ?_) (fun c69 => absurd c68 c69)
            have hpos : ¬ x < 0 := lc_ge.mp c68
            have hsz := pos64 hpos
            refine lv_lload_n hx hb d_V_number_64 rfl (lv_at hl 5 rfl) ?_
            refine lv_lstore (lv' := [(7, .long x), (6, .int 1), (5, .int 0), (0, .ref vv), (1, .int r), (2, .int 4), (3, .long x)]) hx hb d_V_number_65 hl (by decide) rfl (fun ls hl => ?_)
            refine lv_lload hx hb d_V_number_67 (lv_at hl 0 rfl) ?_
            refine z_callR (va_runS (As := [.long x]) (rest := []) ⟨hx, hb, hml, hown, hts⟩ (c_V_bitsOf l D dT _ x) ⟨callB_of 1 hts (gI gd_up gd_c q204) rfl rfl rfl (ht _ q1) (ht _ q202) hd_V_bitsOf ⟨Nat.le_of_ble_eq_true rfl, Nat.le_of_ble_eq_true rfl⟩, ht _ q203⟩ (z_preS hK) rfl rfl hl.1 rfl (lv_room (Nat.le_of_ble_eq_true rfl)) d_V_number_69 ⟨Nat.zero_le _, Nat.zero_le _⟩) (fun v71 hv70 => ?_)
            have hv70 : v71 = .int (nI (nb x.toInt.natAbs)) := by rw [← hsz]; exact hv70
            subst hv70
            refine lv_istore (lv' := [(9, .int (nI (nb x.toInt.natAbs))), (7, .long x), (6, .int 1), (5, .int 0), (0, .ref vv), (1, .int r), (2, .int 4), (3, .long x)]) hx hb d_V_number_72 hl (by decide) rfl (fun ls hl => ?_)
            have hn64 := nb64 x
            refine lv_aload_n hx hb d_V_number_74 rfl (lv_at hl 4 rfl) ?_
            refine lv_iload_n hx hb d_V_number_75 rfl (lv_at hl 5 rfl) ?_
            have hSp := hS
            refine z_newo (ci := 2) hx hb ht in_Whole ty_Whole tyk_Whole hown (ht _ q205) (ht _ q206) (ht _ q14) hK hS rfl fs_Whole (Nat.le_of_ble_eq_true rfl) (Nat.le_of_ble_eq_true rfl) d_V_number_76 (fun ad72 H hqad72 hzad72 oad72 hoad72 hS => ?_)
            have hgad72 : s.heap.size ≤ ad72 := by rw [hqad72]; exact hSp.1
            have hAad72 : (fun q => q = rg ∨ s.heap.size ≤ q) ad72 := (Or.inr hgad72)
            have hgbad72 := Nat.le_trans hN.1 (Nat.le_of_eq hqad72.symm)
            have hN := hN.grew hzad72 hoad72
            refine lv_dup hx hb d_V_number_79 rfl ?_
            refine lv_iload_n hx hb d_V_number_80 rfl (lv_at hl 6 rfl) ?_
            refine lv_lload_n hx hb d_V_number_81 rfl (lv_at hl 7 rfl) ?_
            refine lv_lconst (v := 0) hx hb d_V_number_82 (by decide) ?_
            refine z_lcmp hx hb d_V_number_83 ?_
            refine lv_if_ge (tgt := 91) hx hb d_V_number_84 (by decide) (fun c73 => ?_) (fun c73 => absurd c68 c73)
            refine lv_iconst (v := 0) hx hb d_V_number_91 (by decide) ?_
            refine lv_iload hx hb d_V_number_92 (lv_at hl 0 rfl) ?_
            refine lv_lload hx hb d_V_number_94 (lv_at hl 1 rfl) ?_
            refine lv_iload hx hb d_V_number_96 (lv_at hl 0 rfl) ?_
            refine z_callQ (va_runS (As := [.long x, .int (nI (nb x.toInt.natAbs))]) (rest := [.int (nI (nb x.toInt.natAbs)), .int 0, .int 4, .ref ad72, .ref ad72, .int r, .ref vv]) ⟨hx, hb, hml, hown, hts⟩ (c_V_digitsOf l D dT _ x x.toInt.natAbs hsz) ⟨callB_of 2 hts (gI gd_up gd_c q209) rfl rfl rfl (ht _ q1) (ht _ q207) hd_V_digitsOf ⟨Nat.le_of_ble_eq_true rfl, Nat.le_of_ble_eq_true rfl⟩, ht _ q208⟩ (z_preS hK) rfl rfl hl.1 rfl (lv_room (Nat.le_of_ble_eq_true rfl)) d_V_number_98 ⟨(Nat.le_of_ble_eq_true rfl), (Nat.le_of_ble_eq_true rfl)⟩) hS (fun _ h9 => Or.inr (Nat.le_trans hN.1 h9)) (fun v75 H locs hv74 hz76 hf77 hS => ?_)
            obtain ⟨ad78, rfl, hxad78, oad78⟩ := hv74
            have hgad78 : s.heap.size ≤ ad78 := Nat.le_trans hN.1 hxad78
            have nead72ad78 : ad72 ≠ ad78 := Nat.ne_of_lt (Nat.lt_of_lt_of_le oad72.lt hxad78)
            have oad72 := oad72.kept (hf77 _ oad72.lt (Nat.not_le.mpr oad72.lt))
            have hN := hN.call hz76 hf77 (fun x9 hx9 h9 => absurd (Nat.lt_of_lt_of_le hx9 hN.1) (Nat.not_lt.mpr h9))
            refine W.eq (g2 := F0 m 101 ls [.ref ad78, .int (nI (nb x.toInt.natAbs)), .int 0, .int 4, .ref ad72, .ref ad72, .int r, .ref vv]) rfl ?_
            refine z_callQ (va_runI (As := [.int 4, .int 0, .int (nI (nb x.toInt.natAbs)), .ref ad78]) (rest := [.ref ad72, .int r, .ref vv]) ⟨hx, hb, hml, hown, hts⟩ (c_Whole_init l D dT _ ad72 oad72 4 0 (nI (nb x.toInt.natAbs)) ad78 rfl rfl) ⟨callB_of 4 hts (gI gd_up gd_c q216) rfl rfl rfl (ht _ q14) (ht _ q214) hd_Whole_init ⟨Nat.le_of_ble_eq_true rfl, Nat.le_of_ble_eq_true rfl⟩, rfl, ht _ q215⟩ (z_preS hK) rfl rfl hl.1 rfl (lv_room (Nat.le_of_ble_eq_true rfl)) d_V_number_101 ⟨(Nat.le_of_ble_eq_true rfl), (Nat.le_of_ble_eq_true rfl)⟩) hS (fun q9 h9 => by rw [show q9 = ad72 from h9]; exact hAad72) (fun v80 H locs hv79 hz81 hf82 hS => ?_)
            obtain ⟨rfl, oad72⟩ := hv79
            have oad72 : va_at D cls (ad72, .inr (2, [.int 4, .int (2 + (nI (nb x.toInt.natAbs)) / 7), .int 0, .int (nI (nb x.toInt.natAbs)), .ref ad78])) H := oad72
            have oad78 := oad78.kept (hf82 _ oad78.lt (fun h9 => (Ne.symm nead72ad78) h9))
            have hN := hN.call hz81 hf82 (fun x hx h9 => by have h8 : x = ad72 := h9; omega)
            refine W.eq (g2 := F0 m 104 ls [.ref ad72, .int r, .ref vv]) rfl ?_
            have hz64 : x.toInt.natAbs < 2 ^ 64 := nb_lt.mp hn64
            have hzi : (if x.toInt < 0 then (1 : Int32) else 0) = 0 := if_neg (by have h9 := hpos; rw [Int64.lt_iff_toInt_lt] at h9; exact h9)
            have hwx : wty tb (.pow (.num x.toInt) 4) 0 4 := wty_num hO (by decide) (Nat.lt_trans hz64 (Nat.pow_lt_pow_right (by decide) (by decide))) (fun h9 => by have h8 := hpos; rw [Int64.lt_iff_toInt_lt] at h8; have : (0 : Int64).toInt = 0 := rfl; omega) (fun h9 => by have h8 := hpos; rw [Int64.lt_iff_toInt_lt] at h8; have : (0 : Int64).toInt = 0 := rfl; have h7 := x.toInt_lt; omega)
            have hrx : rv D dT Bq H (.pow (.num x.toInt) 4) ad72 := rv_num.mpr ⟨ad78, by rw [hzi, wl_num (by omega)]; exact oad72, (fun h9 => absurd (hBs _ h9) (Nat.not_lt.mpr hgad72)), oad78, (fun h9 => absurd (hBs _ h9) (Nat.not_lt.mpr hgad78))⟩
            refine z_callQ (va_runV (C := "ValueTrees") (As := [.int r, .ref ad72]) (rest := []) ⟨hx, hb, hml, hown, hts⟩ (c_V_keep_r l D dT _ Bq vv rg li ed tb tc RV (hC.up hN) hV r (.pow (.num x.toInt) 4) 4 ad72 hwx hrx (by rw [l_num, nser_len]; omega)) ⟨callB_of 2 hts (gI gd_up gd_c q264) rfl rfl rfl (ht _ q1) (ht _ q261) hd_V_keep ⟨Nat.le_of_ble_eq_true rfl, Nat.le_of_ble_eq_true rfl⟩, ht _ q263, ht _ qs6⟩ (z_preV hK (va_recv hK.1 (z_1 (hvv.grew hN.2)) (ci := 0) (q0 := 0) rfl rfl)) rfl rfl hl.1 rfl (lv_room (Nat.le_of_ble_eq_true rfl)) d_V_number_104 ⟨(Nat.le_of_ble_eq_true rfl), (Nat.le_of_ble_eq_true rfl)⟩) hS (fun _ h9 => Or.inl h9) (fun v84 H locs hv83 hz85 hf86 hS => ?_)
            obtain ⟨rfl, hC⟩ := hv83
            refine W.eq (g2 := F0 m 107 ls [.int ((kp RV r (some (.pow (.num x.toInt) 4))).1)]) rfl ?_
            exact z_iretQ hx hb hr hlocks d_V_number_107 hS (Nat.le_of_ble_eq_true rfl) (Nat.le_of_ble_eq_true rfl) (by rw [show o_number 4 x = some (.pow (.num x.toInt) 4) from nu_o (k := 4) (by decide) (fun h9 => absurd h9 hpos)]; exact ⟨rfl, hC⟩)
          · refine lv_iconst (v := (-1)) hx hb d_V_number_51 (by decide) ?_
            exact z_iretQ hx hb hr hlocks d_V_number_52 hS (Nat.le_of_ble_eq_true rfl) (Nat.le_of_ble_eq_true rfl) (by rw [show o_number 4 x = none from nu_n (k := 4) (by decide) (Decidable.not_not.mp (fun h9 => c68 (lc_ge.mpr h9)))]; exact ⟨rfl, hC⟩)
    · have et9 : t = 8 := c40
      subst et9
      refine lv_iconst (v := 1) hx hb d_V_number_11 (by decide) ?_
      refine lv_goto (tgt := 16) hx hb d_V_number_12 (by decide) ?_
      refine lv_istore (lv' := [(5, .int 1), (0, .ref vv), (1, .int r), (2, .int 8), (3, .long x)]) hx hb d_V_number_16 hl (by decide) rfl (fun ls hl => ?_)
      refine lv_iload_n hx hb d_V_number_18 rfl (lv_at hl 3 rfl) ?_
      refine lv_iconst (v := 3) hx hb d_V_number_19 (by decide) ?_
      refine lv_icmp_eq (tgt := 28) hx hb d_V_number_20 (by decide) (fun c87 => absurd c87 (by decide)) (fun _ => ?_)
      refine lv_iload_n hx hb d_V_number_23 rfl (lv_at hl 3 rfl) ?_
      refine lv_iconst (v := 4) hx hb d_V_number_24 (by decide) ?_
      refine lv_icmp_ne (tgt := 32) hx hb d_V_number_25 (by decide) (fun _ => ?_) (fun c88 => absurd c88 (by decide))
      refine lv_iconst (v := 0) hx hb d_V_number_32 (by decide) ?_
      refine lv_istore (lv' := [(6, .int 0), (5, .int 1), (0, .ref vv), (1, .int r), (2, .int 8), (3, .long x)]) hx hb d_V_number_33 hl (by decide) rfl (fun ls hl => ?_)
      refine lv_iload hx hb d_V_number_35 (lv_at hl 1 rfl) ?_
      refine lv_if_ne (tgt := 53) hx hb d_V_number_37 (by decide) (fun _ => ?_) (fun c89 => absurd c89 (by decide))
      refine lv_lload_n hx hb d_V_number_53 rfl (lv_at hl 5 rfl) ?_
      refine lv_lconst (v := 0) hx hb d_V_number_54 (by decide) ?_
      refine z_lcmp hx hb d_V_number_55 ?_
      refine lv_if_ge (tgt := 64) hx hb d_V_number_56 (by decide) (fun c90 => ?_) (fun c90 => ?_)
      · have hpos : ¬ x < 0 := lc_ge.mp c90
        have hsz := pos64 hpos
        refine lv_lload_n hx hb d_V_number_64 rfl (lv_at hl 5 rfl) ?_
        refine lv_lstore (lv' := [(7, .long x), (6, .int 0), (5, .int 1), (0, .ref vv), (1, .int r), (2, .int 8), (3, .long x)]) hx hb d_V_number_65 hl (by decide) rfl (fun ls hl => ?_)
        refine lv_lload hx hb d_V_number_67 (lv_at hl 0 rfl) ?_
        refine z_callR (va_runS (As := [.long x]) (rest := []) ⟨hx, hb, hml, hown, hts⟩ (c_V_bitsOf l D dT _ x) ⟨callB_of 1 hts (gI gd_up gd_c q204) rfl rfl rfl (ht _ q1) (ht _ q202) hd_V_bitsOf ⟨Nat.le_of_ble_eq_true rfl, Nat.le_of_ble_eq_true rfl⟩, ht _ q203⟩ (z_preS hK) rfl rfl hl.1 rfl (lv_room (Nat.le_of_ble_eq_true rfl)) d_V_number_69 ⟨Nat.zero_le _, Nat.zero_le _⟩) (fun v92 hv91 => ?_)
        have hv91 : v92 = .int (nI (nb x.toInt.natAbs)) := by rw [← hsz]; exact hv91
        subst hv91
        refine lv_istore (lv' := [(9, .int (nI (nb x.toInt.natAbs))), (7, .long x), (6, .int 0), (5, .int 1), (0, .ref vv), (1, .int r), (2, .int 8), (3, .long x)]) hx hb d_V_number_72 hl (by decide) rfl (fun ls hl => ?_)
        have hn64 := nb64 x
        refine lv_aload_n hx hb d_V_number_74 rfl (lv_at hl 4 rfl) ?_
        refine lv_iload_n hx hb d_V_number_75 rfl (lv_at hl 5 rfl) ?_
        have hSp := hS
        refine z_newo (ci := 2) hx hb ht in_Whole ty_Whole tyk_Whole hown (ht _ q205) (ht _ q206) (ht _ q14) hK hS rfl fs_Whole (Nat.le_of_ble_eq_true rfl) (Nat.le_of_ble_eq_true rfl) d_V_number_76 (fun ad93 H hqad93 hzad93 oad93 hoad93 hS => ?_)
        have hgad93 : s.heap.size ≤ ad93 := by rw [hqad93]; exact hSp.1
        have hAad93 : (fun q => q = rg ∨ s.heap.size ≤ q) ad93 := (Or.inr hgad93)
        have hgbad93 := Nat.le_trans hN.1 (Nat.le_of_eq hqad93.symm)
        have hN := hN.grew hzad93 hoad93
        refine lv_dup hx hb d_V_number_79 rfl ?_
        refine lv_iload_n hx hb d_V_number_80 rfl (lv_at hl 6 rfl) ?_
        refine lv_lload_n hx hb d_V_number_81 rfl (lv_at hl 7 rfl) ?_
        refine lv_lconst (v := 0) hx hb d_V_number_82 (by decide) ?_
        refine z_lcmp hx hb d_V_number_83 ?_
        refine lv_if_ge (tgt := 91) hx hb d_V_number_84 (by decide) (fun c94 => ?_) (fun c94 => absurd c90 c94)
        refine lv_iconst (v := 0) hx hb d_V_number_91 (by decide) ?_
        refine lv_iload hx hb d_V_number_92 (lv_at hl 0 rfl) ?_
        refine lv_lload hx hb d_V_number_94 (lv_at hl 1 rfl) ?_
        refine lv_iload hx hb d_V_number_96 (lv_at hl 0 rfl) ?_
        refine z_callQ (va_runS (As := [.long x, .int (nI (nb x.toInt.natAbs))]) (rest := [.int (nI (nb x.toInt.natAbs)), .int 0, .int 8, .ref ad93, .ref ad93, .int r, .ref vv]) ⟨hx, hb, hml, hown, hts⟩ (c_V_digitsOf l D dT _ x x.toInt.natAbs hsz) ⟨callB_of 2 hts (gI gd_up gd_c q209) rfl rfl rfl (ht _ q1) (ht _ q207) hd_V_digitsOf ⟨Nat.le_of_ble_eq_true rfl, Nat.le_of_ble_eq_true rfl⟩, ht _ q208⟩ (z_preS hK) rfl rfl hl.1 rfl (lv_room (Nat.le_of_ble_eq_true rfl)) d_V_number_98 ⟨(Nat.le_of_ble_eq_true rfl), (Nat.le_of_ble_eq_true rfl)⟩) hS (fun _ h9 => Or.inr (Nat.le_trans hN.1 h9)) (fun v96 H locs hv95 hz97 hf98 hS => ?_)
        obtain ⟨ad99, rfl, hxad99, oad99⟩ := hv95
        have hgad99 : s.heap.size ≤ ad99 := Nat.le_trans hN.1 hxad99
        have nead93ad99 : ad93 ≠ ad99 := Nat.ne_of_lt (Nat.lt_of_lt_of_le oad93.lt hxad99)
        have oad93 := oad93.kept (hf98 _ oad93.lt (Nat.not_le.mpr oad93.lt))
        have hN := hN.call hz97 hf98 (fun x9 hx9 h9 => absurd (Nat.lt_of_lt_of_le hx9 hN.1) (Nat.not_lt.mpr h9))
        refine W.eq (g2 := F0 m 101 ls [.ref ad99, .int (nI (nb x.toInt.natAbs)), .int 0, .int 8, .ref ad93, .ref ad93, .int r, .ref vv]) rfl ?_
        refine z_callQ (va_runI (As := [.int 8, .int 0, .int (nI (nb x.toInt.natAbs)), .ref ad99]) (rest := [.ref ad93, .int r, .ref vv]) ⟨hx, hb, hml, hown, hts⟩ (c_Whole_init l D dT _ ad93 oad93 8 0 (nI (nb x.toInt.natAbs)) ad99 rfl rfl) ⟨callB_of 4 hts (gI gd_up gd_c q216) rfl rfl rfl (ht _ q14) (ht _ q214) hd_Whole_init ⟨Nat.le_of_ble_eq_true rfl, Nat.le_of_ble_eq_true rfl⟩, rfl, ht _ q215⟩ (z_preS hK) rfl rfl hl.1 rfl (lv_room (Nat.le_of_ble_eq_true rfl)) d_V_number_101 ⟨(Nat.le_of_ble_eq_true rfl), (Nat.le_of_ble_eq_true rfl)⟩) hS (fun q9 h9 => by rw [show q9 = ad93 from h9]; exact hAad93) (fun v101 H locs hv100 hz102 hf103 hS => ?_)
        obtain ⟨rfl, oad93⟩ := hv100
        have oad93 : va_at D cls (ad93, .inr (2, [.int 8, .int (2 + (nI (nb x.toInt.natAbs)) / 7), .int 0, .int (nI (nb x.toInt.natAbs)), .ref ad99])) H := oad93
        have oad99 := oad99.kept (hf103 _ oad99.lt (fun h9 => (Ne.symm nead93ad99) h9))
        have hN := hN.call hz102 hf103 (fun x hx h9 => by have h8 : x = ad93 := h9; omega)
        refine W.eq (g2 := F0 m 104 ls [.ref ad93, .int r, .ref vv]) rfl ?_
        have hz64 : x.toInt.natAbs < 2 ^ 64 := nb_lt.mp hn64
        have hzi : (if x.toInt < 0 then (1 : Int32) else 0) = 0 := if_neg (by have h9 := hpos; rw [Int64.lt_iff_toInt_lt] at h9; exact h9)
        have hwx : wty tb (.pow (.num x.toInt) 8) 0 8 := wty_num hO (by decide) (Nat.lt_trans hz64 (Nat.pow_lt_pow_right (by decide) (by decide))) (fun h9 => absurd h9 (by decide)) (fun h9 => absurd h9 (by decide))
        have hrx : rv D dT Bq H (.pow (.num x.toInt) 8) ad93 := rv_num.mpr ⟨ad99, by rw [hzi, wl_num (by omega)]; exact oad93, (fun h9 => absurd (hBs _ h9) (Nat.not_lt.mpr hgad93)), oad99, (fun h9 => absurd (hBs _ h9) (Nat.not_lt.mpr hgad99))⟩
        refine z_callQ (va_runV (C := "ValueTrees") (As := [.int r, .ref ad93]) (rest := []) ⟨hx, hb, hml, hown, hts⟩ (c_V_keep_r l D dT _ Bq vv rg li ed tb tc RV (hC.up hN) hV r (.pow (.num x.toInt) 8) 8 ad93 hwx hrx (by rw [l_num, nser_len]; omega)) ⟨callB_of 2 hts (gI gd_up gd_c q264) rfl rfl rfl (ht _ q1) (ht _ q261) hd_V_keep ⟨Nat.le_of_ble_eq_true rfl, Nat.le_of_ble_eq_true rfl⟩, ht _ q263, ht _ qs6⟩ (z_preV hK (va_recv hK.1 (z_1 (hvv.grew hN.2)) (ci := 0) (q0 := 0) rfl rfl)) rfl rfl hl.1 rfl (lv_room (Nat.le_of_ble_eq_true rfl)) d_V_number_104 ⟨(Nat.le_of_ble_eq_true rfl), (Nat.le_of_ble_eq_true rfl)⟩) hS (fun _ h9 => Or.inl h9) (fun v105 H locs hv104 hz106 hf107 hS => ?_)
        obtain ⟨rfl, hC⟩ := hv104
        refine W.eq (g2 := F0 m 107 ls [.int ((kp RV r (some (.pow (.num x.toInt) 8))).1)]) rfl ?_
        exact z_iretQ hx hb hr hlocks d_V_number_107 hS (Nat.le_of_ble_eq_true rfl) (Nat.le_of_ble_eq_true rfl) (by rw [show o_number 8 x = some (.pow (.num x.toInt) 8) from nu_o (k := 8) (by decide) (fun h9 => by decide)]; exact ⟨rfl, hC⟩)
      · have hneg : x < 0 := Decidable.not_not.mp (fun h9 => c90 (lc_ge.mpr h9))
        have hsz := neg64 hneg
        refine lv_lload_n hx hb d_V_number_59 rfl (lv_at hl 5 rfl) ?_
        refine lv_lneg hx hb d_V_number_60 ?_
        refine lv_goto (tgt := 65) hx hb d_V_number_61 (by decide) ?_
        refine lv_lstore (lv' := [(7, .long (-x)), (6, .int 0), (5, .int 1), (0, .ref vv), (1, .int r), (2, .int 8), (3, .long x)]) hx hb d_V_number_65 hl (by decide) rfl (fun ls hl => ?_)
        refine lv_lload hx hb d_V_number_67 (lv_at hl 0 rfl) ?_
        refine z_callR (va_runS (As := [.long (-x)]) (rest := []) ⟨hx, hb, hml, hown, hts⟩ (c_V_bitsOf l D dT _ (-x)) ⟨callB_of 1 hts (gI gd_up gd_c q204) rfl rfl rfl (ht _ q1) (ht _ q202) hd_V_bitsOf ⟨Nat.le_of_ble_eq_true rfl, Nat.le_of_ble_eq_true rfl⟩, ht _ q203⟩ (z_preS hK) rfl rfl hl.1 rfl (lv_room (Nat.le_of_ble_eq_true rfl)) d_V_number_69 ⟨Nat.zero_le _, Nat.zero_le _⟩) (fun v109 hv108 => ?_)
        have hv108 : v109 = .int (nI (nb x.toInt.natAbs)) := by rw [← hsz]; exact hv108
        subst hv108
        refine lv_istore (lv' := [(9, .int (nI (nb x.toInt.natAbs))), (7, .long (-x)), (6, .int 0), (5, .int 1), (0, .ref vv), (1, .int r), (2, .int 8), (3, .long x)]) hx hb d_V_number_72 hl (by decide) rfl (fun ls hl => ?_)
        have hn64 := nb64 x
        refine lv_aload_n hx hb d_V_number_74 rfl (lv_at hl 4 rfl) ?_
        refine lv_iload_n hx hb d_V_number_75 rfl (lv_at hl 5 rfl) ?_
        have hSp := hS
        refine z_newo (ci := 2) hx hb ht in_Whole ty_Whole tyk_Whole hown (ht _ q205) (ht _ q206) (ht _ q14) hK hS rfl fs_Whole (Nat.le_of_ble_eq_true rfl) (Nat.le_of_ble_eq_true rfl) d_V_number_76 (fun ad110 H hqad110 hzad110 oad110 hoad110 hS => ?_)
        have hgad110 : s.heap.size ≤ ad110 := by rw [hqad110]; exact hSp.1
        have hAad110 : (fun q => q = rg ∨ s.heap.size ≤ q) ad110 := (Or.inr hgad110)
        have hgbad110 := Nat.le_trans hN.1 (Nat.le_of_eq hqad110.symm)
        have hN := hN.grew hzad110 hoad110
        refine lv_dup hx hb d_V_number_79 rfl ?_
        refine lv_iload_n hx hb d_V_number_80 rfl (lv_at hl 6 rfl) ?_
        refine lv_lload_n hx hb d_V_number_81 rfl (lv_at hl 7 rfl) ?_
        refine lv_lconst (v := 0) hx hb d_V_number_82 (by decide) ?_
        refine z_lcmp hx hb d_V_number_83 ?_
        refine lv_if_ge (tgt := 91) hx hb d_V_number_84 (by decide) (fun c111 => absurd c111 (fun h9 => c90 h9)) (fun c111 => ?_)
        refine lv_iconst (v := 1) hx hb d_V_number_87 (by decide) ?_
        refine lv_goto (tgt := 92) hx hb d_V_number_88 (by decide) ?_
        refine lv_iload hx hb d_V_number_92 (lv_at hl 0 rfl) ?_
        refine lv_lload hx hb d_V_number_94 (lv_at hl 1 rfl) ?_
        refine lv_iload hx hb d_V_number_96 (lv_at hl 0 rfl) ?_
        refine z_callQ (va_runS (As := [.long (-x), .int (nI (nb x.toInt.natAbs))]) (rest := [.int (nI (nb x.toInt.natAbs)), .int 1, .int 8, .ref ad110, .ref ad110, .int r, .ref vv]) ⟨hx, hb, hml, hown, hts⟩ (c_V_digitsOf l D dT _ (-x) x.toInt.natAbs hsz) ⟨callB_of 2 hts (gI gd_up gd_c q209) rfl rfl rfl (ht _ q1) (ht _ q207) hd_V_digitsOf ⟨Nat.le_of_ble_eq_true rfl, Nat.le_of_ble_eq_true rfl⟩, ht _ q208⟩ (z_preS hK) rfl rfl hl.1 rfl (lv_room (Nat.le_of_ble_eq_true rfl)) d_V_number_98 ⟨(Nat.le_of_ble_eq_true rfl), (Nat.le_of_ble_eq_true rfl)⟩) hS (fun _ h9 => Or.inr (Nat.le_trans hN.1 h9)) (fun v113 H locs hv112 hz114 hf115 hS => ?_)
        obtain ⟨ad116, rfl, hxad116, oad116⟩ := hv112
        have hgad116 : s.heap.size ≤ ad116 := Nat.le_trans hN.1 hxad116
        have nead110ad116 : ad110 ≠ ad116 := Nat.ne_of_lt (Nat.lt_of_lt_of_le oad110.lt hxad116)
        have oad110 := oad110.kept (hf115 _ oad110.lt (Nat.not_le.mpr oad110.lt))
        have hN := hN.call hz114 hf115 (fun x9 hx9 h9 => absurd (Nat.lt_of_lt_of_le hx9 hN.1) (Nat.not_lt.mpr h9))
        refine W.eq (g2 := F0 m 101 ls [.ref ad116, .int (nI (nb x.toInt.natAbs)), .int 1, .int 8, .ref ad110, .ref ad110, .int r, .ref vv]) rfl ?_
        refine z_callQ (va_runI (As := [.int 8, .int 1, .int (nI (nb x.toInt.natAbs)), .ref ad116]) (rest := [.ref ad110, .int r, .ref vv]) ⟨hx, hb, hml, hown, hts⟩ (c_Whole_init l D dT _ ad110 oad110 8 1 (nI (nb x.toInt.natAbs)) ad116 rfl rfl) ⟨callB_of 4 hts (gI gd_up gd_c q216) rfl rfl rfl (ht _ q14) (ht _ q214) hd_Whole_init ⟨Nat.le_of_ble_eq_true rfl, Nat.le_of_ble_eq_true rfl⟩, rfl, ht _ q215⟩ (z_preS hK) rfl rfl hl.1 rfl (lv_room (Nat.le_of_ble_eq_true rfl)) d_V_number_101 ⟨(Nat.le_of_ble_eq_true rfl), (Nat.le_of_ble_eq_true rfl)⟩) hS (fun q9 h9 => by rw [show q9 = ad110 from h9]; exact hAad110) (fun v118 H locs hv117 hz119 hf120 hS => ?_)
        obtain ⟨rfl, oad110⟩ := hv117
        have oad110 : va_at D cls (ad110, .inr (2, [.int 8, .int (2 + (nI (nb x.toInt.natAbs)) / 7), .int 1, .int (nI (nb x.toInt.natAbs)), .ref ad116])) H := oad110
        have oad116 := oad116.kept (hf120 _ oad116.lt (fun h9 => (Ne.symm nead110ad116) h9))
        have hN := hN.call hz119 hf120 (fun x hx h9 => by have h8 : x = ad110 := h9; omega)
        refine W.eq (g2 := F0 m 104 ls [.ref ad110, .int r, .ref vv]) rfl ?_
        have hz64 : x.toInt.natAbs < 2 ^ 64 := nb_lt.mp hn64
        have hzi : (if x.toInt < 0 then (1 : Int32) else 0) = 1 := if_pos (by have h9 := hneg; rw [Int64.lt_iff_toInt_lt] at h9; exact h9)
        have hwx : wty tb (.pow (.num x.toInt) 8) 0 8 := wty_num hO (by decide) (Nat.lt_trans hz64 (Nat.pow_lt_pow_right (by decide) (by decide))) (fun h9 => absurd h9 (by decide)) (fun h9 => absurd h9 (by decide))
        have hrx : rv D dT Bq H (.pow (.num x.toInt) 8) ad110 := rv_num.mpr ⟨ad116, by rw [hzi, wl_num (by omega)]; exact oad110, (fun h9 => absurd (hBs _ h9) (Nat.not_lt.mpr hgad110)), oad116, (fun h9 => absurd (hBs _ h9) (Nat.not_lt.mpr hgad116))⟩
        refine z_callQ (va_runV (C := "ValueTrees") (As := [.int r, .ref ad110]) (rest := []) ⟨hx, hb, hml, hown, hts⟩ (c_V_keep_r l D dT _ Bq vv rg li ed tb tc RV (hC.up hN) hV r (.pow (.num x.toInt) 8) 8 ad110 hwx hrx (by rw [l_num, nser_len]; omega)) ⟨callB_of 2 hts (gI gd_up gd_c q264) rfl rfl rfl (ht _ q1) (ht _ q261) hd_V_keep ⟨Nat.le_of_ble_eq_true rfl, Nat.le_of_ble_eq_true rfl⟩, ht _ q263, ht _ qs6⟩ (z_preV hK (va_recv hK.1 (z_1 (hvv.grew hN.2)) (ci := 0) (q0 := 0) rfl rfl)) rfl rfl hl.1 rfl (lv_room (Nat.le_of_ble_eq_true rfl)) d_V_number_104 ⟨(Nat.le_of_ble_eq_true rfl), (Nat.le_of_ble_eq_true rfl)⟩) hS (fun _ h9 => Or.inl h9) (fun v122 H locs hv121 hz123 hf124 hS => ?_)
        obtain ⟨rfl, hC⟩ := hv121
        refine W.eq (g2 := F0 m 107 ls [.int ((kp RV r (some (.pow (.num x.toInt) 8))).1)]) rfl ?_
        exact z_iretQ hx hb hr hlocks d_V_number_107 hS (Nat.le_of_ble_eq_true rfl) (Nat.le_of_ble_eq_true rfl) (by rw [show o_number 8 x = some (.pow (.num x.toInt) 8) from nu_o (k := 8) (by decide) (fun h9 => by decide)]; exact ⟨rfl, hC⟩)
