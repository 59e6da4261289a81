abbrev b_M_load : ByteArray := prog_12_method_26_code
abbrev y_M_load : MethodName := ⟨"ValueTreesModel", "load", "(I)Z"⟩
abbrev w_M_load : List Cond := .code y_M_load b_M_load 6 (Option.some .boolean) :: gt
theorem hd_M_load : (y_M_load).cls ≠ "java/lang/invoke/MethodHandle" ∧ (y_M_load).cls ≠ "java/lang/invoke/VarHandle" ∧ (parseMethodDescriptor (y_M_load).desc).map (fun d => d.parameters.length) = some 1 := by decide +kernel
theorem d_M_load_0 : decode b_M_load 0 = .ok (.aload_n 0, 1) := by decide +kernel
theorem d_M_load_1 : decode b_M_load 1 = .ok (.iconst 0, 1) := by decide +kernel
theorem d_M_load_2 : decode b_M_load 2 = .ok (.putfield 85, 3) := by decide +kernel
theorem d_M_load_5 : decode b_M_load 5 = .ok (.aload_n 0, 1) := by decide +kernel
theorem d_M_load_6 : decode b_M_load 6 = .ok (.iload_n 1, 1) := by decide +kernel
theorem d_M_load_7 : decode b_M_load 7 = .ok (.iconst 1, 1) := by decide +kernel
theorem d_M_load_8 : decode b_M_load 8 = .ok (.iadd, 1) := by decide +kernel
theorem d_M_load_9 : decode b_M_load 9 = .ok (.invokevirtual 72, 3) := by decide +kernel
theorem d_M_load_12 : decode b_M_load 12 = .ok (.istore_n 2, 1) := by decide +kernel
theorem d_M_load_13 : decode b_M_load 13 = .ok (.iload_n 2, 1) := by decide +kernel
theorem d_M_load_14 : decode b_M_load 14 = .ok (.bipush 64, 2) := by decide +kernel
theorem d_M_load_16 : decode b_M_load 16 = .ok (.iand, 1) := by decide +kernel
theorem d_M_load_17 : decode b_M_load 17 = .ok (.ifCond .le 7, 3) := by decide +kernel
theorem d_M_load_20 : decode b_M_load 20 = .ok (.iconst 1, 1) := by decide +kernel
theorem d_M_load_21 : decode b_M_load 21 = .ok (.goto 4, 3) := by decide +kernel
theorem d_M_load_24 : decode b_M_load 24 = .ok (.iconst 0, 1) := by decide +kernel
theorem d_M_load_25 : decode b_M_load 25 = .ok (.istore_n 3, 1) := by decide +kernel
theorem d_M_load_26 : decode b_M_load 26 = .ok (.aload_n 0, 1) := by decide +kernel
theorem d_M_load_27 : decode b_M_load 27 = .ok (.iconst 0, 1) := by decide +kernel
theorem d_M_load_28 : decode b_M_load 28 = .ok (.bipush 6, 2) := by decide +kernel
theorem d_M_load_30 : decode b_M_load 30 = .ok (.iload_n 2, 1) := by decide +kernel
theorem d_M_load_31 : decode b_M_load 31 = .ok (.bipush 63, 2) := by decide +kernel
theorem d_M_load_33 : decode b_M_load 33 = .ok (.iand, 1) := by decide +kernel
theorem d_M_load_34 : decode b_M_load 34 = .ok (.invokevirtual 91, 3) := by decide +kernel
theorem d_M_load_37 : decode b_M_load 37 = .ok (.bipush 6, 2) := by decide +kernel
theorem d_M_load_39 : decode b_M_load 39 = .ok (.istore 4, 2) := by decide +kernel
theorem d_M_load_41 : decode b_M_load 41 = .ok (.iload_n 1, 1) := by decide +kernel
theorem d_M_load_42 : decode b_M_load 42 = .ok (.iconst 1, 1) := by decide +kernel
theorem d_M_load_43 : decode b_M_load 43 = .ok (.iadd, 1) := by decide +kernel
theorem d_M_load_44 : decode b_M_load 44 = .ok (.istore 5, 2) := by decide +kernel
theorem d_M_load_46 : decode b_M_load 46 = .ok (.aload_n 0, 1) := by decide +kernel
theorem d_M_load_47 : decode b_M_load 47 = .ok (.iload 5, 2) := by decide +kernel
theorem d_M_load_49 : decode b_M_load 49 = .ok (.invokevirtual 72, 3) := by decide +kernel
theorem d_M_load_52 : decode b_M_load 52 = .ok (.bipush 127, 2) := by decide +kernel
theorem d_M_load_54 : decode b_M_load 54 = .ok (.if_icmp .le 29, 3) := by decide +kernel
theorem d_M_load_57 : decode b_M_load 57 = .ok (.iinc 5 1, 3) := by decide +kernel
theorem d_M_load_60 : decode b_M_load 60 = .ok (.aload_n 0, 1) := by decide +kernel
theorem d_M_load_61 : decode b_M_load 61 = .ok (.iload 4, 2) := by decide +kernel
theorem d_M_load_63 : decode b_M_load 63 = .ok (.bipush 7, 2) := by decide +kernel
theorem d_M_load_65 : decode b_M_load 65 = .ok (.aload_n 0, 1) := by decide +kernel
theorem d_M_load_66 : decode b_M_load 66 = .ok (.iload 5, 2) := by decide +kernel
theorem d_M_load_68 : decode b_M_load 68 = .ok (.invokevirtual 72, 3) := by decide +kernel
theorem d_M_load_71 : decode b_M_load 71 = .ok (.bipush 127, 2) := by decide +kernel
theorem d_M_load_73 : decode b_M_load 73 = .ok (.iand, 1) := by decide +kernel
theorem d_M_load_74 : decode b_M_load 74 = .ok (.invokevirtual 91, 3) := by decide +kernel
theorem d_M_load_77 : decode b_M_load 77 = .ok (.iinc 4 7, 3) := by decide +kernel
theorem d_M_load_80 : decode b_M_load 80 = .ok (.goto (-34), 3) := by decide +kernel
theorem d_M_load_83 : decode b_M_load 83 = .ok (.aload_n 0, 1) := by decide +kernel
theorem d_M_load_84 : decode b_M_load 84 = .ok (.invokevirtual 95, 3) := by decide +kernel
theorem d_M_load_87 : decode b_M_load 87 = .ok (.iload_n 3, 1) := by decide +kernel
theorem d_M_load_88 : decode b_M_load 88 = .ok (.ireturn, 1) := by decide +kernel
set_option maxHeartbeats 4000000 in
set_option maxRecDepth 100000 in
theorem c_M_load (l : Launch) (D : va_G) (dT : Nat → ClassId) (H : Heap) (mm : Nat → Nat) (wd lf rt : Nat → Int32) (tc : Nat) (ty : Nat → Int32) (F : Nat → Nat) (sz : Nat → Int32) (Wk : Nat → Nat) (wz : Nat) (dg : Nat → Nat) (dc : Nat) (sh : Nat → Nat) (hM : mAt D dT mm wd lf rt tc ty F sz Wk wz dg dc sh H) (hF : ∀ k, F k < 256) (a : Nat) (z : Int) (hz9 : z.natAbs < 2 ^ 1024) (hf : fAt F (a + 1) (nser z)) (ha : a + 1 + (nser z).length ≤ 2560) : Met l y_M_load w_M_load ({ frames := 1, cells := 0, slots := 0, locals := 25 }) (z_P D dT [.ref (mm 0), .int (nI a)] H) (z_Q (mA mm) (fun r H1 => r = some (.int (if z < 0 then 1 else 0)) ∧ ∃ dg' dc', (∀ k, k < dc' → dg' k < 65536) ∧ dc' ≤ 140 ∧ dval dg' dc' = z.natAbs ∧ (dc' = 0 ∨ dg' (dc' - 1) ≠ 0) ∧ mAt D dT mm wd lf rt tc ty F sz Wk wz dg' dc' sh H1)) 0 0 (mA mm) := by
  refine Met.ofW (cc := b_M_load) (maxL := 6) (ret := (Option.some .boolean)) (by decide) rfl ?_
  intro p e s m args below meth c s₁ B hml hv
  obtain ⟨rfl, rfl, hK⟩ := hv
  have hx := B.exec
  have hb := B.bytes
  have hr := B.returns
  have hts := atoms_spec (ws := w_M_load) B.pre
  have ht : ∀ w9 ∈ gt, w9.before [.ref (mm 0), .int (nI a)].toArray s = true := fun w9 h => hts w9 (List.mem_cons_of_mem _ h)
  have hown : s.vm.findClass "ValueTreesModel" = some m.cls := findClass_of_methodNamed B.named
  have hlocks := B.notSynchronized
  have hS : va_S (mA mm) s.heap s.heap [] := va_S.rf
  have hl := lv_entry ([.ref (mm 0), .int (nI a)]) (n := 6) (Nat.le_of_ble_eq_true rfl)
  rw [lg_entry_eq]
  generalize (lg_sl ([.ref (mm 0), .int (nI a)]) ++ List.replicate (6 - (lg_sl ([.ref (mm 0), .int (nI a)])).length) Slot.unset).toArray = ls at hl ⊢
  have hl : lv_has ls 6 [(0, .ref (mm 0)), (1, .int (nI a))] := hl
  have hl9 := nser_len z
  have hm9 : nb z.natAbs ≤ 1024 := nb_lt.mpr hz9
  have hb0 := hf 0 (by omega)
  have hF0 := hF (a + 1)
  obtain ⟨hb1, hb2⟩ := nser_0 z
  rw [← hb0] at hb1 hb2
  have hb1 : F (a + 1) % 64 = z.natAbs % 64 := hb1
  rcases Classical.em (z < 0) with hz | hz
  · rw [if_pos hz] at hb2
    rw [if_pos hz]
    have hb2 : F (a + 1) / 64 % 2 = 1 := hb2
    refine lv_aload_n hx hb d_M_load_0 rfl (lv_at hl 0 rfl) ?_
    refine lv_iconst (v := 0) hx hb d_M_load_1 (by decide) ?_
    refine m_put_dc hx hb ht hown hK hM hS (ht _ q549) 0 rfl d_M_load_2 (fun H locs hM hS => ?_)
    have hM : mAt D dT mm wd lf rt tc ty F sz Wk wz dg 0 sh H := hM
    refine lv_aload_n hx hb d_M_load_5 rfl (lv_at hl 0 rfl) ?_
    refine lv_iload_n hx hb d_M_load_6 rfl (lv_at hl 1 rfl) ?_
    refine lv_iconst (v := 1) hx hb d_M_load_7 (by decide) ?_
    refine lv_iadd hx hb d_M_load_8 ?_
    rw [show (((nI a) + 1) : Int32) = nI (a + 1) from nI_add a 1]
    refine z_callR (va_runV (C := "ValueTreesModel") (As := [.int (nI (a + 1))]) (rest := []) ⟨hx, hb, hml, hown, hts⟩ (c_M_byteOf l D dT _ mm wd lf rt tc ty F sz Wk wz dg 0 sh hM (a + 1) (by omega) (hF _)) ⟨callB_of 1 hts (gI gd_up gd_c q670) rfl rfl rfl (ht _ q10) (ht _ q667) hd_M_byteOf ⟨Nat.le_of_ble_eq_true rfl, Nat.le_of_ble_eq_true rfl⟩, ht _ q669, ht _ qs29⟩ (z_preV hK (va_recv hK.1 hM.1 (ci := 10) (q0 := 0) rfl rfl)) rfl rfl hl.1 rfl (lv_room (Nat.le_of_ble_eq_true rfl)) d_M_load_9 ⟨Nat.zero_le _, Nat.zero_le _⟩) (fun v2 hv1 => ?_)
    subst hv1
    refine lv_istore_n (lv' := [(2, .int (nI (F (a + 1)))), (0, .ref (mm 0)), (1, .int (nI a))]) hx hb d_M_load_12 rfl hl (by decide) rfl (fun ls hl => ?_)
    refine lv_iload_n hx hb d_M_load_13 rfl (lv_at hl 0 rfl) ?_
    refine lv_bipush (v := 64) hx hb d_M_load_14 (by decide) ?_
    refine lv_iand hx hb d_M_load_16 ?_
    rw [show (((nI (F (a + 1))) &&& 64) : Int32) = 64 from (by rw [nI_and64 _ hF0, hb2]; rfl)]
    refine lv_if_le (tgt := 24) hx hb d_M_load_17 (by decide) (fun c3 => absurd c3 (by decide)) (fun _ => ?_)
    refine lv_iconst (v := 1) hx hb d_M_load_20 (by decide) ?_
    refine lv_goto (tgt := 25) hx hb d_M_load_21 (by decide) ?_
    refine lv_istore_n (lv' := [(3, .int 1), (2, .int (nI (F (a + 1)))), (0, .ref (mm 0)), (1, .int (nI a))]) hx hb d_M_load_25 rfl hl (by decide) rfl (fun ls hl => ?_)
    refine lv_aload_n hx hb d_M_load_26 rfl (lv_at hl 2 rfl) ?_
    refine lv_iconst (v := 0) hx hb d_M_load_27 (by decide) ?_
    refine lv_bipush (v := 6) hx hb d_M_load_28 (by decide) ?_
    refine lv_iload_n hx hb d_M_load_30 rfl (lv_at hl 1 rfl) ?_
    refine lv_bipush (v := 63) hx hb d_M_load_31 (by decide) ?_
    refine lv_iand hx hb d_M_load_33 ?_
    rw [show (((nI (F (a + 1))) &&& 63) : Int32) = nI ((F (a + 1)) % 64) from nI_and63 (n := (F (a + 1))) (by omega)]
    refine z_callQ (va_runV (C := "ValueTreesModel") (As := [.int 0, .int 6, .int (nI ((F (a + 1)) % 64))]) (rest := []) ⟨hx, hb, hml, hown, hts⟩ (c_M_setBits l D dT _ mm wd lf rt tc ty F sz Wk wz dg 0 sh hM (fun k hk => absurd hk (Nat.not_lt_zero k)) (by omega) 0 6 ((F (a + 1)) % 64) (by omega) (by omega) (by omega) (by show (0 : Nat) < 2 ^ 0; decide)) ⟨callB_of 3 hts (gI gd_up gd_c q674) rfl rfl rfl (ht _ q10) (ht _ q671) hd_M_setBits ⟨Nat.le_of_ble_eq_true rfl, Nat.le_of_ble_eq_true rfl⟩, ht _ q673, ht _ qs30⟩ (z_preV hK (va_recv hK.1 hM.1 (ci := 10) (q0 := 0) rfl rfl)) rfl rfl hl.1 rfl (lv_room (Nat.le_of_ble_eq_true rfl)) d_M_load_34 ⟨Nat.le_refl _, Nat.le_refl _⟩) hS (fun _ h9 => h9) (fun v5 H locs hv4 hz6 hf7 hS => ?_)
    obtain ⟨rfl, dg, dc, hd, hdc, hval9, hM⟩ := hv4
    refine W.eq (g2 := F0 m 37 ls []) rfl ?_
    have hval : dval dg dc = z.natAbs % 2 ^ (6 + 7 * 0) := by rw [hval9, hb1]; show 0 + z.natAbs % 64 % 2 ^ 6 * 2 ^ 0 = z.natAbs % 2 ^ 6; omega
    refine lv_bipush (v := 6) hx hb d_M_load_37 (by decide) ?_
    refine lv_istore (lv' := [(4, .int 6), (3, .int 1), (2, .int (nI (F (a + 1)))), (0, .ref (mm 0)), (1, .int (nI a))]) hx hb d_M_load_39 hl (by decide) rfl (fun ls hl => ?_)
    refine lv_iload_n hx hb d_M_load_41 rfl (lv_at hl 4 rfl) ?_
    refine lv_iconst (v := 1) hx hb d_M_load_42 (by decide) ?_
    refine lv_iadd hx hb d_M_load_43 ?_
    rw [show (((nI a) + 1) : Int32) = nI (a + 1) from nI_add a 1]
    refine lv_istore (lv' := [(5, .int (nI (a + 1))), (4, .int 6), (3, .int 1), (2, .int (nI (F (a + 1)))), (0, .ref (mm 0)), (1, .int (nI a))]) hx hb d_M_load_44 hl (by decide) rfl (fun ls hl => ?_)
    have loop8 : ∀ (n469 : Nat) (j : Nat), (j ≤ nb z.natAbs / 7) → nb z.natAbs / 7 - j < n469 → ∀ (H : Heap) (locs : List Loc) (dg : Nat → Nat) (dc : Nat), (∀ q, q < dc → dg q < 65536) → (dc ≤ 140) → (dval dg dc = z.natAbs % 2 ^ (6 + 7 * j)) → mAt D dT mm wd lf rt tc ty F sz Wk wz dg dc sh H → va_S (mA mm) s.heap H locs → ∀ (ls : Array Slot), lv_has ls 6 [(4, .int (nI (6 + 7 * j))), (5, .int (nI (a + 1 + j))), (3, .int 1), (0, .ref (mm 0)), (1, .int (nI a))] → W p l e (headSpec w_M_load ({ frames := 1, cells := 0, slots := 0, locals := 25 })).room s m [.ref (mm 0), .int (nI a)].toArray below meth c H locs 0 0 (MQ below (z_Q (mA mm) (fun r H1 => r = some (.int 1) ∧ ∃ dg' dc', (∀ k, k < dc' → dg' k < 65536) ∧ dc' ≤ 140 ∧ dval dg' dc' = z.natAbs ∧ (dc' = 0 ∨ dg' (dc' - 1) ≠ 0) ∧ mAt D dT mm wd lf rt tc ty F sz Wk wz dg' dc' sh H1)) [.ref (mm 0), .int (nI a)].toArray s 0 0 (mA mm)) (F0 m 46 ls []) := by
      intro n469
      induction n469 with
      | zero =>
        intro j hj h469
        exact absurd h469 (Nat.not_lt_zero _)
      | succ n469 ih46 =>
        intro j hj h469 H locs dg dc hd hdc hval hM hS ls hl
        have hfj := hf j (by rw [nser_len]; omega)
        have hFj := hF (a + 1 + j)
        refine lv_aload_n hx hb d_M_load_46 rfl (lv_at hl 3 rfl) ?_
        refine lv_iload hx hb d_M_load_47 (lv_at hl 1 rfl) ?_
        refine z_callR (va_runV (C := "ValueTreesModel") (As := [.int (nI (a + 1 + j))]) (rest := []) ⟨hx, hb, hml, hown, hts⟩ (c_M_byteOf l D dT _ mm wd lf rt tc ty F sz Wk wz dg dc sh hM (a + 1 + j) (by omega) (hF _)) ⟨callB_of 1 hts (gI gd_up gd_c q670) rfl rfl rfl (ht _ q10) (ht _ q667) hd_M_byteOf ⟨Nat.le_of_ble_eq_true rfl, Nat.le_of_ble_eq_true rfl⟩, ht _ q669, ht _ qs29⟩ (z_preV hK (va_recv hK.1 hM.1 (ci := 10) (q0 := 0) rfl rfl)) rfl rfl hl.1 rfl (lv_room (Nat.le_of_ble_eq_true rfl)) d_M_load_49 ⟨Nat.zero_le _, Nat.zero_le _⟩) (fun v10 hv9 => ?_)
        subst hv9
        refine lv_bipush (v := 127) hx hb d_M_load_52 (by decide) ?_
        refine lv_icmp_le (tgt := 83) hx hb d_M_load_54 (by decide) (fun c11 => ?_) (fun c11 => ?_)
        · have nc11 : (F (a + 1 + j)) ≤ 127 := (nI_leI (a := (F (a + 1 + j))) (b := 127) (by omega) (by omega)).mp c11
          have hje : j = nb z.natAbs / 7 := by
            rcases Nat.lt_or_ge j (nb z.natAbs / 7) with q | q
            · have := (nser_hi q).1; omega
            · omega
          refine lv_aload_n hx hb d_M_load_83 rfl (lv_at hl 3 rfl) ?_
          refine z_callQ (va_runV (C := "ValueTreesModel") (As := []) (rest := []) ⟨hx, hb, hml, hown, hts⟩ (c_M_trim l D dT _ mm wd lf rt tc ty F sz Wk wz dg dc sh hM hdc hd) ⟨callB_of 0 hts (gI gd_up gd_c q678) rfl rfl rfl (ht _ q10) (ht _ q675) hd_M_trim ⟨Nat.le_of_ble_eq_true rfl, Nat.le_of_ble_eq_true rfl⟩, ht _ q677, ht _ qs31⟩ (z_preV hK (va_recv hK.1 hM.1 (ci := 10) (q0 := 0) rfl rfl)) rfl rfl hl.1 rfl (lv_room (Nat.le_of_ble_eq_true rfl)) d_M_load_84 ⟨Nat.le_refl _, Nat.le_refl _⟩) hS (fun _ h9 => h9) (fun v13 H locs hv12 hz14 hf15 hS => ?_)
          obtain ⟨rfl, ec, hec, hval8, htr, hM⟩ := hv12
          refine W.eq (g2 := F0 m 87 ls []) rfl ?_
          refine lv_iload_n hx hb d_M_load_87 rfl (lv_at hl 2 rfl) ?_
          exact z_zretQ hx hb hr hlocks d_M_load_88 rfl hS (Nat.le_refl _) (Nat.le_refl _) ⟨rfl, dg, ec, fun k hk => hd k (by omega), by omega, by rw [hval8, hval, hje, load_end], htr, hM⟩
        · have nc11 : ¬ (F (a + 1 + j)) ≤ 127 := fun h9 => c11 ((nI_leI (a := (F (a + 1 + j))) (b := 127) (by omega) (by omega)).mpr h9)
          have hjl : j < nb z.natAbs / 7 := by
            rcases Nat.lt_or_ge j (nb z.natAbs / 7) with q | q
            · exact q
            · have e9 : j = nb z.natAbs / 7 := by omega
              have h9 := nser_lo z
              rw [← e9] at h9; omega
          have hfn := hf (j + 1) (by rw [nser_len]; omega)
          have hFn := hF (a + 1 + (j + 1))
          have hns := nser_s hjl
          rw [← hfn] at hns
          refine lv_iinc (v := (nI (a + 1 + (j + 1)))) (lv' := [(5, .int (nI (a + 1 + (j + 1)))), (4, .int (nI (6 + 7 * j))), (3, .int 1), (0, .ref (mm 0)), (1, .int (nI a))]) hx hb d_M_load_57 hl (k := 1) rfl (nI_1 (a + 1 + j)) (by decide) rfl (fun ls hl => ?_)
          refine lv_aload_n hx hb d_M_load_60 rfl (lv_at hl 3 rfl) ?_
          refine lv_iload hx hb d_M_load_61 (lv_at hl 1 rfl) ?_
          refine lv_bipush (v := 7) hx hb d_M_load_63 (by decide) ?_
          refine lv_aload_n hx hb d_M_load_65 rfl (lv_at hl 3 rfl) ?_
          refine lv_iload hx hb d_M_load_66 (lv_at hl 0 rfl) ?_
          refine z_callR (va_runV (C := "ValueTreesModel") (As := [.int (nI (a + 1 + (j + 1)))]) (rest := [.int 7, .int (nI (6 + 7 * j)), .ref (mm 0)]) ⟨hx, hb, hml, hown, hts⟩ (c_M_byteOf l D dT _ mm wd lf rt tc ty F sz Wk wz dg dc sh hM (a + 1 + (j + 1)) (by omega) (hF _)) ⟨callB_of 1 hts (gI gd_up gd_c q670) rfl rfl rfl (ht _ q10) (ht _ q667) hd_M_byteOf ⟨Nat.le_of_ble_eq_true rfl, Nat.le_of_ble_eq_true rfl⟩, ht _ q669, ht _ qs29⟩ (z_preV hK (va_recv hK.1 hM.1 (ci := 10) (q0 := 0) rfl rfl)) rfl rfl hl.1 rfl (lv_room (Nat.le_of_ble_eq_true rfl)) d_M_load_68 ⟨Nat.zero_le _, Nat.zero_le _⟩) (fun v17 hv16 => ?_)
          subst hv16
          refine lv_bipush (v := 127) hx hb d_M_load_71 (by decide) ?_
          refine lv_iand hx hb d_M_load_73 ?_
          rw [show (((nI (F (a + 1 + (j + 1)))) &&& 127) : Int32) = nI (z.natAbs / 2 ^ (6 + 7 * j) % 128) from (by rw [nI_and127 (by omega), hns])]
          refine z_callQ (va_runV (C := "ValueTreesModel") (As := [.int (nI (6 + 7 * j)), .int 7, .int (nI (z.natAbs / 2 ^ (6 + 7 * j) % 128))]) (rest := []) ⟨hx, hb, hml, hown, hts⟩ (c_M_setBits l D dT _ mm wd lf rt tc ty F sz Wk wz dg dc sh hM hd hdc (6 + 7 * j) 7 (z.natAbs / 2 ^ (6 + 7 * j) % 128) (by omega) (by omega) (by omega) (by rw [hval]; exact Nat.mod_lt _ (Nat.two_pow_pos _))) ⟨callB_of 3 hts (gI gd_up gd_c q674) rfl rfl rfl (ht _ q10) (ht _ q671) hd_M_setBits ⟨Nat.le_of_ble_eq_true rfl, Nat.le_of_ble_eq_true rfl⟩, ht _ q673, ht _ qs30⟩ (z_preV hK (va_recv hK.1 hM.1 (ci := 10) (q0 := 0) rfl rfl)) rfl rfl hl.1 rfl (lv_room (Nat.le_of_ble_eq_true rfl)) d_M_load_74 ⟨Nat.le_refl _, Nat.le_refl _⟩) hS (fun _ h9 => h9) (fun v19 H locs hv18 hz20 hf21 hS => ?_)
          obtain ⟨rfl, dg, dc, hd, hdc, hval9, hM⟩ := hv18
          refine W.eq (g2 := F0 m 77 ls []) rfl ?_
          have hval : dval dg dc = z.natAbs % 2 ^ (6 + 7 * (j + 1)) := by rw [hval9, hval, load_step]
          refine lv_iinc (v := (nI (6 + 7 * (j + 1)))) (lv' := [(4, .int (nI (6 + 7 * (j + 1)))), (5, .int (nI (a + 1 + (j + 1)))), (3, .int 1), (0, .ref (mm 0)), (1, .int (nI a))]) hx hb d_M_load_77 hl (k := 1) rfl (nI_add (6 + 7 * j) 7) (by decide) rfl (fun ls hl => ?_)
          refine lv_goto (tgt := 46) hx hb d_M_load_80 (by decide) ?_
          exact ih46 (j + 1) (by omega) (by omega) _ _ dg dc hd hdc hval hM hS ls (lv_sub hl [0, 1, 2, 3, 4] rfl)
    exact loop8 (nb z.natAbs / 7 + 1) 0 (by omega) (by omega) _ _ dg dc hd hdc hval hM hS ls (lv_sub hl [1, 0, 2, 4, 5] rfl)
  · rw [if_neg hz] at hb2
    rw [if_neg hz]
    have hb2 : F (a + 1) / 64 % 2 = 0 := hb2
    refine lv_aload_n hx hb d_M_load_0 rfl (lv_at hl 0 rfl) ?_
    refine lv_iconst (v := 0) hx hb d_M_load_1 (by decide) ?_
    refine m_put_dc hx hb ht hown hK hM hS (ht _ q549) 0 rfl d_M_load_2 (fun H locs hM hS => ?_)
    have hM : mAt D dT mm wd lf rt tc ty F sz Wk wz dg 0 sh H := hM
    refine lv_aload_n hx hb d_M_load_5 rfl (lv_at hl 0 rfl) ?_
    refine lv_iload_n hx hb d_M_load_6 rfl (lv_at hl 1 rfl) ?_
    refine lv_iconst (v := 1) hx hb d_M_load_7 (by decide) ?_
    refine lv_iadd hx hb d_M_load_8 ?_
    rw [show (((nI a) + 1) : Int32) = nI (a + 1) from nI_add a 1]
    refine z_callR (va_runV (C := "ValueTreesModel") (As := [.int (nI (a + 1))]) (rest := []) ⟨hx, hb, hml, hown, hts⟩ (c_M_byteOf l D dT _ mm wd lf rt tc ty F sz Wk wz dg 0 sh hM (a + 1) (by omega) (hF _)) ⟨callB_of 1 hts (gI gd_up gd_c q670) rfl rfl rfl (ht _ q10) (ht _ q667) hd_M_byteOf ⟨Nat.le_of_ble_eq_true rfl, Nat.le_of_ble_eq_true rfl⟩, ht _ q669, ht _ qs29⟩ (z_preV hK (va_recv hK.1 hM.1 (ci := 10) (q0 := 0) rfl rfl)) rfl rfl hl.1 rfl (lv_room (Nat.le_of_ble_eq_true rfl)) d_M_load_9 ⟨Nat.zero_le _, Nat.zero_le _⟩) (fun v23 hv22 => ?_)
    subst hv22
    refine lv_istore_n (lv' := [(2, .int (nI (F (a + 1)))), (0, .ref (mm 0)), (1, .int (nI a))]) hx hb d_M_load_12 rfl hl (by decide) rfl (fun ls hl => ?_)
    refine lv_iload_n hx hb d_M_load_13 rfl (lv_at hl 0 rfl) ?_
    refine lv_bipush (v := 64) hx hb d_M_load_14 (by decide) ?_
    refine lv_iand hx hb d_M_load_16 ?_
    rw [show (((nI (F (a + 1))) &&& 64) : Int32) = 0 from (by rw [nI_and64 _ hF0, hb2]; rfl)]
    refine lv_if_le (tgt := 24) hx hb d_M_load_17 (by decide) (fun _ => ?_) (fun c24 => absurd c24 (by decide))
    refine lv_iconst (v := 0) hx hb d_M_load_24 (by decide) ?_
    refine lv_istore_n (lv' := [(3, .int 0), (2, .int (nI (F (a + 1)))), (0, .ref (mm 0)), (1, .int (nI a))]) hx hb d_M_load_25 rfl hl (by decide) rfl (fun ls hl => ?_)
    refine lv_aload_n hx hb d_M_load_26 rfl (lv_at hl 2 rfl) ?_
    refine lv_iconst (v := 0) hx hb d_M_load_27 (by decide) ?_
    refine lv_bipush (v := 6) hx hb d_M_load_28 (by decide) ?_
    refine lv_iload_n hx hb d_M_load_30 rfl (lv_at hl 1 rfl) ?_
    refine lv_bipush (v := 63) hx hb d_M_load_31 (by decide) ?_
    refine lv_iand hx hb d_M_load_33 ?_
    rw [show (((nI (F (a + 1))) &&& 63) : Int32) = nI ((F (a + 1)) % 64) from nI_and63 (n := (F (a + 1))) (by omega)]
    refine z_callQ (va_runV (C := "ValueTreesModel") (As := [.int 0, .int 6, .int (nI ((F (a + 1)) % 64))]) (rest := []) ⟨hx, hb, hml, hown, hts⟩ (c_M_setBits l D dT _ mm wd lf rt tc ty F sz Wk wz dg 0 sh hM (fun k hk => absurd hk (Nat.not_lt_zero k)) (by omega) 0 6 ((F (a + 1)) % 64) (by omega) (by omega) (by omega) (by show (0 : Nat) < 2 ^ 0; decide)) ⟨callB_of 3 hts (gI gd_up gd_c q674) rfl rfl rfl (ht _ q10) (ht _ q671) hd_M_setBits ⟨Nat.le_of_ble_eq_true rfl, Nat.le_of_ble_eq_true rfl⟩, ht _ q673, ht _ qs30⟩ (z_preV hK (va_recv hK.1 hM.1 (ci := 10) (q0 := 0) rfl rfl)) rfl rfl hl.1 rfl (lv_room (Nat.le_of_ble_eq_true rfl)) d_M_load_34 ⟨Nat.le_refl _, Nat.le_refl _⟩) hS (fun _ h9 => h9) (fun v26 H locs hv25 hz27 hf28 hS => ?_)
    obtain ⟨rfl, dg, dc, hd, hdc, hval9, hM⟩ := hv25
    refine W.eq (g2 := F0 m 37 ls []) rfl ?_
    have hval : dval dg dc = z.natAbs % 2 ^ (6 + 7 * 0) := by rw [hval9, hb1]; show 0 + z.natAbs % 64 % 2 ^ 6 * 2 ^ 0 = z.natAbs % 2 ^ 6; omega
    refine lv_bipush (v := 6) hx hb d_M_load_37 (by decide) ?_
    refine lv_istore (lv' := [(4, .int 6), (3, .int 0), (2, .int (nI (F (a + 1)))), (0, .ref (mm 0)), (1, .int (nI a))]) hx hb d_M_load_39 hl (by decide) rfl (fun ls hl => ?_)
    refine lv_iload_n hx hb d_M_load_41 rfl (lv_at hl 4 rfl) ?_
    refine lv_iconst (v := 1) hx hb d_M_load_42 (by decide) ?_
    refine lv_iadd hx hb d_M_load_43 ?_
    rw [show (((nI a) + 1) : Int32) = nI (a + 1) from nI_add a 1]
    refine lv_istore (lv' := [(5, .int (nI (a + 1))), (4, .int 6), (3, .int 0), (2, .int (nI (F (a + 1)))), (0, .ref (mm 0)), (1, .int (nI a))]) hx hb d_M_load_44 hl (by decide) rfl (fun ls hl => ?_)
    have loop29 : ∀ (n469 : Nat) (j : Nat), (j ≤ nb z.natAbs / 7) → nb z.natAbs / 7 - j < n469 → ∀ (H : Heap) (locs : List Loc) (dg : Nat → Nat) (dc : Nat), (∀ q, q < dc → dg q < 65536) → (dc ≤ 140) → (dval dg dc = z.natAbs % 2 ^ (6 + 7 * j)) → mAt D dT mm wd lf rt tc ty F sz Wk wz dg dc sh H → va_S (mA mm) s.heap H locs → ∀ (ls : Array Slot), lv_has ls 6 [(4, .int (nI (6 + 7 * j))), (5, .int (nI (a + 1 + j))), (3, .int 0), (0, .ref (mm 0)), (1, .int (nI a))] → W p l e (headSpec w_M_load ({ frames := 1, cells := 0, slots := 0, locals := 25 })).room s m [.ref (mm 0), .int (nI a)].toArray below meth c H locs 0 0 (MQ below (z_Q (mA mm) (fun r H1 => r = some (.int 0) ∧ ∃ dg' dc', (∀ k, k < dc' → dg' k < 65536) ∧ dc' ≤ 140 ∧ dval dg' dc' = z.natAbs ∧ (dc' = 0 ∨ dg' (dc' - 1) ≠ 0) ∧ mAt D dT mm wd lf rt tc ty F sz Wk wz dg' dc' sh H1)) [.ref (mm 0), .int (nI a)].toArray s 0 0 (mA mm)) (F0 m 46 ls []) := by
      intro n469
      induction n469 with
      | zero =>
        intro j hj h469
        exact absurd h469 (Nat.not_lt_zero _)
      | succ n469 ih46 =>
        intro j hj h469 H locs dg dc hd hdc hval hM hS ls hl
        have hfj := hf j (by rw [nser_len]; omega)
        have hFj := hF (a + 1 + j)
        refine lv_aload_n hx hb d_M_load_46 rfl (lv_at hl 3 rfl) ?_
        refine lv_iload hx hb d_M_load_47 (lv_at hl 1 rfl) ?_
        refine z_callR (va_runV (C := "ValueTreesModel") (As := [.int (nI (a + 1 + j))]) (rest := []) ⟨hx, hb, hml, hown, hts⟩ (c_M_byteOf l D dT _ mm wd lf rt tc ty F sz Wk wz dg dc sh hM (a + 1 + j) (by omega) (hF _)) ⟨callB_of 1 hts (gI gd_up gd_c q670) rfl rfl rfl (ht _ q10) (ht _ q667) hd_M_byteOf ⟨Nat.le_of_ble_eq_true rfl, Nat.le_of_ble_eq_true rfl⟩, ht _ q669, ht _ qs29⟩ (z_preV hK (va_recv hK.1 hM.1 (ci := 10) (q0 := 0) rfl rfl)) rfl rfl hl.1 rfl (lv_room (Nat.le_of_ble_eq_true rfl)) d_M_load_49 ⟨Nat.zero_le _, Nat.zero_le _⟩) (fun v31 hv30 => ?_)
        subst hv30
        refine lv_bipush (v := 127) hx hb d_M_load_52 (by decide) ?_
        refine lv_icmp_le (tgt := 83) hx hb d_M_load_54 (by decide) (fun c32 => ?_) (fun c32 => ?_)
        · have nc32 : (F (a + 1 + j)) ≤ 127 := (nI_leI (a := (F (a + 1 + j))) (b := 127) (by omega) (by omega)).mp c32
          have hje : j = nb z.natAbs / 7 := by
            rcases Nat.lt_or_ge j (nb z.natAbs / 7) with q | q
            · have := (nser_hi q).1; omega
            · omega
          refine lv_aload_n hx hb d_M_load_83 rfl (lv_at hl 3 rfl) ?_
          refine z_callQ (va_runV (C := "ValueTreesModel") (As := []) (rest := []) ⟨hx, hb, hml, hown, hts⟩ (c_M_trim l D dT _ mm wd lf rt tc ty F sz Wk wz dg dc sh hM hdc hd) ⟨callB_of 0 hts (gI gd_up gd_c q678) rfl rfl rfl (ht _ q10) (ht _ q675) hd_M_trim ⟨Nat.le_of_ble_eq_true rfl, Nat.le_of_ble_eq_true rfl⟩, ht _ q677, ht _ qs31⟩ (z_preV hK (va_recv hK.1 hM.1 (ci := 10) (q0 := 0) rfl rfl)) rfl rfl hl.1 rfl (lv_room (Nat.le_of_ble_eq_true rfl)) d_M_load_84 ⟨Nat.le_refl _, Nat.le_refl _⟩) hS (fun _ h9 => h9) (fun v34 H locs hv33 hz35 hf36 hS => ?_)
          obtain ⟨rfl, ec, hec, hval8, htr, hM⟩ := hv33
          refine W.eq (g2 := F0 m 87 ls []) rfl ?_
          refine lv_iload_n hx hb d_M_load_87 rfl (lv_at hl 2 rfl) ?_
          exact z_zretQ hx hb hr hlocks d_M_load_88 rfl hS (Nat.le_refl _) (Nat.le_refl _) ⟨rfl, dg, ec, fun k hk => hd k (by omega), by omega, by rw [hval8, hval, hje, load_end], htr, hM⟩
        · have nc32 : ¬ (F (a + 1 + j)) ≤ 127 := fun h9 => c32 ((nI_leI (a := (F (a + 1 + j))) (b := 127) (by omega) (by omega)).mpr h9)
          have hjl : j < nb z.natAbs / 7 := by
            rcases Nat.lt_or_ge j (nb z.natAbs / 7) with q | q
            · exact q
            · have e9 : j = nb z.natAbs / 7 := by omega
              have h9 := nser_lo z
              rw [← e9] at h9; omega
          have hfn := hf (j + 1) (by rw [nser_len]; omega)
          have hFn := hF (a + 1 + (j + 1))
          have hns := nser_s hjl
          rw [← hfn] at hns
          refine lv_iinc (v := (nI (a + 1 + (j + 1)))) (lv' := [(5, .int (nI (a + 1 + (j + 1)))), (4, .int (nI (6 + 7 * j))), (3, .int 0), (0, .ref (mm 0)), (1, .int (nI a))]) hx hb d_M_load_57 hl (k := 1) rfl (nI_1 (a + 1 + j)) (by decide) rfl (fun ls hl => ?_)
          refine lv_aload_n hx hb d_M_load_60 rfl (lv_at hl 3 rfl) ?_
          refine lv_iload hx hb d_M_load_61 (lv_at hl 1 rfl) ?_
          refine lv_bipush (v := 7) hx hb d_M_load_63 (by decide) ?_
          refine lv_aload_n hx hb d_M_load_65 rfl (lv_at hl 3 rfl) ?_
          refine lv_iload hx hb d_M_load_66 (lv_at hl 0 rfl) ?_
          refine z_callR (va_runV (C := "ValueTreesModel") (As := [.int (nI (a + 1 + (j + 1)))]) (rest := [.int 7, .int (nI (6 + 7 * j)), .ref (mm 0)]) ⟨hx, hb, hml, hown, hts⟩ (c_M_byteOf l D dT _ mm wd lf rt tc ty F sz Wk wz dg dc sh hM (a + 1 + (j + 1)) (by omega) (hF _)) ⟨callB_of 1 hts (gI gd_up gd_c q670) rfl rfl rfl (ht _ q10) (ht _ q667) hd_M_byteOf ⟨Nat.le_of_ble_eq_true rfl, Nat.le_of_ble_eq_true rfl⟩, ht _ q669, ht _ qs29⟩ (z_preV hK (va_recv hK.1 hM.1 (ci := 10) (q0 := 0) rfl rfl)) rfl rfl hl.1 rfl (lv_room (Nat.le_of_ble_eq_true rfl)) d_M_load_68 ⟨Nat.zero_le _, Nat.zero_le _⟩) (fun v38 hv37 => ?_)
          subst hv37
          refine lv_bipush (v := 127) hx hb d_M_load_71 (by decide) ?_
          refine lv_iand hx hb d_M_load_73 ?_
          rw [show (((nI (F (a + 1 + (j + 1)))) &&& 127) : Int32) = nI (z.natAbs / 2 ^ (6 + 7 * j) % 128) from (by rw [nI_and127 (by omega), hns])]
          refine z_callQ (va_runV (C := "ValueTreesModel") (As := [.int (nI (6 + 7 * j)), .int 7, .int (nI (z.natAbs / 2 ^ (6 + 7 * j) % 128))]) (rest := []) ⟨hx, hb, hml, hown, hts⟩ (c_M_setBits l D dT _ mm wd lf rt tc ty F sz Wk wz dg dc sh hM hd hdc (6 + 7 * j) 7 (z.natAbs / 2 ^ (6 + 7 * j) % 128) (by omega) (by omega) (by omega) (by rw [hval]; exact Nat.mod_lt _ (Nat.two_pow_pos _))) ⟨callB_of 3 hts (gI gd_up gd_c q674) rfl rfl rfl (ht _ q10) (ht _ q671) hd_M_setBits ⟨Nat.le_of_ble_eq_true rfl, Nat.le_of_ble_eq_true rfl⟩, ht _ q673, ht _ qs30⟩ (z_preV hK (va_recv hK.1 hM.1 (ci := 10) (q0 := 0) rfl rfl)) rfl rfl hl.1 rfl (lv_room (Nat.le_of_ble_eq_true rfl)) d_M_load_74 ⟨Nat.le_refl _, Nat.le_refl _⟩) hS (fun _ h9 => h9) (fun v40 H locs hv39 hz41 hf42 hS => ?_)
          obtain ⟨rfl, dg, dc, hd, hdc, hval9, hM⟩ := hv39
          refine W.eq (g2 := F0 m 77 ls []) rfl ?_
          have hval : dval dg dc = z.natAbs % 2 ^ (6 + 7 * (j + 1)) := by rw [hval9, hval, load_step]
          refine lv_iinc (v := (nI (6 + 7 * (j + 1)))) (lv' := [(4, .int (nI (6 + 7 * (j + 1)))), (5, .int (nI (a + 1 + (j + 1)))), (3, .int 0), (0, .ref (mm 0)), (1, .int (nI a))]) hx hb d_M_load_77 hl (k := 1) rfl (nI_add (6 + 7 * j) 7) (by decide) rfl (fun ls hl => ?_)
          refine lv_goto (tgt := 46) hx hb d_M_load_80 (by decide) ?_
          exact ih46 (j + 1) (by omega) (by omega) _ _ dg dc hd hdc hval hM hS ls (lv_sub hl [0, 1, 2, 3, 4] rfl)
    exact loop29 (nb z.natAbs / 7 + 1) 0 (by omega) (by omega) _ _ dg dc hd hdc hval hM hS ls (lv_sub hl [1, 0, 2, 4, 5] rfl)
abbrev b_M_putNumber : ByteArray := prog_12_method_29_code
abbrev y_M_putNumber : MethodName := ⟨"ValueTreesModel", "putNumber", "(Z)V"⟩
abbrev w_M_putNumber : List Cond := .code y_M_putNumber b_M_putNumber 4 (Option.none : Option FieldType) :: gt
theorem hd_M_putNumber : (y_M_putNumber).cls ≠ "java/lang/invoke/MethodHandle" ∧ (y_M_putNumber).cls ≠ "java/lang/invoke/VarHandle" ∧ (parseMethodDescriptor (y_M_putNumber).desc).map (fun d => d.parameters.length) = some 1 := by decide +kernel
theorem d_M_putNumber_0 : decode b_M_putNumber 0 = .ok (.aload_n 0, 1) := by decide +kernel
theorem d_M_putNumber_1 : decode b_M_putNumber 1 = .ok (.invokevirtual 105, 3) := by decide +kernel
theorem d_M_putNumber_4 : decode b_M_putNumber 4 = .ok (.istore_n 2, 1) := by decide +kernel
theorem d_M_putNumber_5 : decode b_M_putNumber 5 = .ok (.aload_n 0, 1) := by decide +kernel
theorem d_M_putNumber_6 : decode b_M_putNumber 6 = .ok (.iconst 0, 1) := by decide +kernel
theorem d_M_putNumber_7 : decode b_M_putNumber 7 = .ok (.invokevirtual 101, 3) := by decide +kernel
theorem d_M_putNumber_10 : decode b_M_putNumber 10 = .ok (.aload_n 0, 1) := by decide +kernel
theorem d_M_putNumber_11 : decode b_M_putNumber 11 = .ok (.aload_n 0, 1) := by decide +kernel
theorem d_M_putNumber_12 : decode b_M_putNumber 12 = .ok (.iconst 0, 1) := by decide +kernel
theorem d_M_putNumber_13 : decode b_M_putNumber 13 = .ok (.bipush 6, 2) := by decide +kernel
theorem d_M_putNumber_15 : decode b_M_putNumber 15 = .ok (.invokevirtual 109, 3) := by decide +kernel
theorem d_M_putNumber_18 : decode b_M_putNumber 18 = .ok (.iload_n 1, 1) := by decide +kernel
theorem d_M_putNumber_19 : decode b_M_putNumber 19 = .ok (.ifCond .eq 8, 3) := by decide +kernel
theorem d_M_putNumber_22 : decode b_M_putNumber 22 = .ok (.bipush 64, 2) := by decide +kernel
theorem d_M_putNumber_24 : decode b_M_putNumber 24 = .ok (.goto 4, 3) := by decide +kernel
theorem d_M_putNumber_27 : decode b_M_putNumber 27 = .ok (.iconst 0, 1) := by decide +kernel
theorem d_M_putNumber_28 : decode b_M_putNumber 28 = .ok (.iadd, 1) := by decide +kernel
theorem d_M_putNumber_29 : decode b_M_putNumber 29 = .ok (.iload_n 2, 1) := by decide +kernel
theorem d_M_putNumber_30 : decode b_M_putNumber 30 = .ok (.bipush 6, 2) := by decide +kernel
theorem d_M_putNumber_32 : decode b_M_putNumber 32 = .ok (.if_icmp .le 9, 3) := by decide +kernel
theorem d_M_putNumber_35 : decode b_M_putNumber 35 = .ok (.sipush 128, 3) := by decide +kernel
theorem d_M_putNumber_38 : decode b_M_putNumber 38 = .ok (.goto 4, 3) := by decide +kernel
theorem d_M_putNumber_41 : decode b_M_putNumber 41 = .ok (.iconst 0, 1) := by decide +kernel
theorem d_M_putNumber_42 : decode b_M_putNumber 42 = .ok (.iadd, 1) := by decide +kernel
theorem d_M_putNumber_43 : decode b_M_putNumber 43 = .ok (.invokevirtual 101, 3) := by decide +kernel
theorem d_M_putNumber_46 : decode b_M_putNumber 46 = .ok (.bipush 6, 2) := by decide +kernel
theorem d_M_putNumber_48 : decode b_M_putNumber 48 = .ok (.istore_n 3, 1) := by decide +kernel
theorem d_M_putNumber_49 : decode b_M_putNumber 49 = .ok (.iload_n 3, 1) := by decide +kernel
theorem d_M_putNumber_50 : decode b_M_putNumber 50 = .ok (.iload_n 2, 1) := by decide +kernel
theorem d_M_putNumber_51 : decode b_M_putNumber 51 = .ok (.if_icmp .ge 36, 3) := by decide +kernel
theorem d_M_putNumber_54 : decode b_M_putNumber 54 = .ok (.aload_n 0, 1) := by decide +kernel
theorem d_M_putNumber_55 : decode b_M_putNumber 55 = .ok (.aload_n 0, 1) := by decide +kernel
theorem d_M_putNumber_56 : decode b_M_putNumber 56 = .ok (.iload_n 3, 1) := by decide +kernel
theorem d_M_putNumber_57 : decode b_M_putNumber 57 = .ok (.bipush 7, 2) := by decide +kernel
theorem d_M_putNumber_59 : decode b_M_putNumber 59 = .ok (.invokevirtual 109, 3) := by decide +kernel
theorem d_M_putNumber_62 : decode b_M_putNumber 62 = .ok (.iload_n 3, 1) := by decide +kernel
theorem d_M_putNumber_63 : decode b_M_putNumber 63 = .ok (.bipush 7, 2) := by decide +kernel
theorem d_M_putNumber_65 : decode b_M_putNumber 65 = .ok (.iadd, 1) := by decide +kernel
theorem d_M_putNumber_66 : decode b_M_putNumber 66 = .ok (.iload_n 2, 1) := by decide +kernel
theorem d_M_putNumber_67 : decode b_M_putNumber 67 = .ok (.if_icmp .ge 9, 3) := by decide +kernel
theorem d_M_putNumber_70 : decode b_M_putNumber 70 = .ok (.sipush 128, 3) := by decide +kernel
theorem d_M_putNumber_73 : decode b_M_putNumber 73 = .ok (.goto 4, 3) := by decide +kernel
theorem d_M_putNumber_76 : decode b_M_putNumber 76 = .ok (.iconst 0, 1) := by decide +kernel
theorem d_M_putNumber_77 : decode b_M_putNumber 77 = .ok (.iadd, 1) := by decide +kernel
theorem d_M_putNumber_78 : decode b_M_putNumber 78 = .ok (.invokevirtual 101, 3) := by decide +kernel
theorem d_M_putNumber_81 : decode b_M_putNumber 81 = .ok (.iinc 3 7, 3) := by decide +kernel
theorem d_M_putNumber_84 : decode b_M_putNumber 84 = .ok (.goto (-35), 3) := by decide +kernel
theorem d_M_putNumber_87 : decode b_M_putNumber 87 = .ok (.return_, 1) := by decide +kernel
set_option maxHeartbeats 4000000 in
set_option maxRecDepth 100000 in
theorem c_M_putNumber (l : Launch) (D : va_G) (dT : Nat → ClassId) (H : Heap) (mm : Nat → Nat) (wd lf rt : Nat → Int32) (tc : Nat) (ty : Nat → Int32) (F : Nat → Nat) (sz : Nat → Int32) (Wk : Nat → Nat) (bs : List Nat) (dg : Nat → Nat) (dc : Nat) (sh : Nat → Nat) (hM : mAt D dT mm wd lf rt tc ty F sz Wk bs.length dg dc sh H) (hW : wAt Wk bs) (hd : ∀ k, k < dc → dg k < 65536) (hdc : dc ≤ 140) (z : Int) (hz9 : z.natAbs < 2 ^ 1024) (hdv : dval dg dc = z.natAbs) (htr : dc = 0 ∨ dg (dc - 1) ≠ 0) (hbl : bs.length < 1000) : Met l y_M_putNumber w_M_putNumber ({ frames := 2, cells := 0, slots := 0, locals := 46 }) (z_P D dT [.ref (mm 0), .int (if z < 0 then 1 else 0)] H) (z_Q (mA mm) (fun v H1 => v = none ∧ ∃ Wk', wAt Wk' (bs ++ (0 :: nser z)) ∧ mAt D dT mm wd lf rt tc ty F sz Wk' ((bs ++ (0 :: nser z)).length) dg dc sh H1)) 0 0 (mA mm) := by
  refine Met.ofW (cc := b_M_putNumber) (maxL := 4) (ret := (Option.none : Option FieldType)) (by decide) rfl ?_
  intro p e s m args below meth c s₁ B hml hv
  obtain ⟨rfl, rfl, hK⟩ := hv
  have hx := B.exec
  have hb := B.bytes
  have hr := B.returns
  have hts := atoms_spec (ws := w_M_putNumber) B.pre
  have ht : ∀ w9 ∈ gt, w9.before [.ref (mm 0), .int (if z < 0 then 1 else 0)].toArray s = true := fun w9 h => hts w9 (List.mem_cons_of_mem _ h)
  have hown : s.vm.findClass "ValueTreesModel" = some m.cls := findClass_of_methodNamed B.named
  have hlocks := B.notSynchronized
  have hS : va_S (mA mm) s.heap s.heap [] := va_S.rf
  have hl := lv_entry ([.ref (mm 0), .int (if z < 0 then 1 else 0)]) (n := 4) (Nat.le_of_ble_eq_true rfl)
  rw [lg_entry_eq]
  generalize (lg_sl ([.ref (mm 0), .int (if z < 0 then 1 else 0)]) ++ List.replicate (4 - (lg_sl ([.ref (mm 0), .int (if z < 0 then 1 else 0)])).length) Slot.unset).toArray = ls at hl ⊢
  have hl : lv_has ls 4 [(0, .ref (mm 0)), (1, .int (if z < 0 then 1 else 0))] := hl
  have hm9 : nb z.natAbs ≤ 1024 := nb_lt.mpr hz9
  have hl9 := nser_len z
  rcases Classical.em (z < 0) with hz | hz
  · rw [if_pos hz] at hl
    refine lv_aload_n hx hb d_M_putNumber_0 rfl (lv_at hl 0 rfl) ?_
    refine z_callR (va_runV (C := "ValueTreesModel") (As := []) (rest := []) ⟨hx, hb, hml, hown, hts⟩ (c_M_bits l D dT _ mm wd lf rt tc ty F sz Wk bs.length dg dc sh hM hd hdc htr) ⟨callB_of 0 hts (gI gd_up gd_c q631) rfl rfl rfl (ht _ q10) (ht _ q628) hd_M_bits ⟨Nat.le_of_ble_eq_true rfl, Nat.le_of_ble_eq_true rfl⟩, ht _ q630, ht _ qs21⟩ (z_preV hK (va_recv hK.1 hM.1 (ci := 10) (q0 := 0) rfl rfl)) rfl rfl hl.1 rfl (lv_room (Nat.le_of_ble_eq_true rfl)) d_M_putNumber_1 ⟨Nat.zero_le _, Nat.zero_le _⟩) (fun v2 hv1 => ?_)
    have hv1 : v2 = .int (nI (nb z.natAbs)) := by rw [← hdv]; exact hv1
    subst hv1
    refine lv_istore_n (lv' := [(2, .int (nI (nb z.natAbs))), (0, .ref (mm 0)), (1, .int 1)]) hx hb d_M_putNumber_4 rfl hl (by decide) rfl (fun ls hl => ?_)
    refine lv_aload_n hx hb d_M_putNumber_5 rfl (lv_at hl 1 rfl) ?_
    refine lv_iconst (v := 0) hx hb d_M_putNumber_6 (by decide) ?_
    refine z_callQ (va_runV (C := "ValueTreesModel") (As := [.int 0]) (rest := []) ⟨hx, hb, hml, hown, hts⟩ (c_M_lay l D dT _ mm wd lf rt tc ty F sz Wk bs dg dc sh hM hW 0 (by (try simp only [List.length_append, List.length_cons, List.length_nil, size4_len]); omega)) ⟨callB_of 1 hts (gI gd_up gd_c q635) rfl rfl rfl (ht _ q10) (ht _ q632) hd_M_lay ⟨Nat.le_of_ble_eq_true rfl, Nat.le_of_ble_eq_true rfl⟩, ht _ q634, ht _ qs22⟩ (z_preV hK (va_recv hK.1 hM.1 (ci := 10) (q0 := 0) rfl rfl)) rfl rfl hl.1 rfl (lv_room (Nat.le_of_ble_eq_true rfl)) d_M_putNumber_7 ⟨Nat.le_refl _, Nat.le_refl _⟩) hS (fun _ h9 => h9) (fun v4 H locs hv3 hz5 hf6 hS => ?_)
    obtain ⟨rfl, Wk, hW, hWk7, hM⟩ := hv3
    refine W.eq (g2 := F0 m 10 ls []) rfl ?_
    refine lv_aload_n hx hb d_M_putNumber_10 rfl (lv_at hl 1 rfl) ?_
    refine lv_aload_n hx hb d_M_putNumber_11 rfl (lv_at hl 1 rfl) ?_
    refine lv_iconst (v := 0) hx hb d_M_putNumber_12 (by decide) ?_
    refine lv_bipush (v := 6) hx hb d_M_putNumber_13 (by decide) ?_
    refine z_callR (va_runV (C := "ValueTreesModel") (As := [.int 0, .int 6]) (rest := [.ref (mm 0)]) ⟨hx, hb, hml, hown, hts⟩ (c_M_bitsFrom l D dT _ mm wd lf rt tc ty F sz Wk ((bs ++ [0 % 256]).length) dg dc sh hM hd hdc 0 6 (by omega) (by omega)) ⟨callB_of 2 hts (gI gd_up gd_c q639) rfl rfl rfl (ht _ q10) (ht _ q636) hd_M_bitsFrom ⟨Nat.le_of_ble_eq_true rfl, Nat.le_of_ble_eq_true rfl⟩, ht _ q638, ht _ qs23⟩ (z_preV hK (va_recv hK.1 hM.1 (ci := 10) (q0 := 0) rfl rfl)) rfl rfl hl.1 rfl (lv_room (Nat.le_of_ble_eq_true rfl)) d_M_putNumber_15 ⟨Nat.zero_le _, Nat.zero_le _⟩) (fun v9 hv8 => ?_)
    have hv8 : v9 = .int (nI (z.natAbs / 2 ^ 0 % 2 ^ 6)) := by rw [← hdv]; exact hv8
    subst hv8
    refine lv_iload_n hx hb d_M_putNumber_18 rfl (lv_at hl 2 rfl) ?_
    refine lv_if_eq (tgt := 27) hx hb d_M_putNumber_19 (by decide) (fun c10 => absurd c10 (by decide)) (fun _ => ?_)
    refine lv_bipush (v := 64) hx hb d_M_putNumber_22 (by decide) ?_
    refine lv_goto (tgt := 28) hx hb d_M_putNumber_24 (by decide) ?_
    refine lv_iadd hx hb d_M_putNumber_28 ?_
    rw [show (((nI (z.natAbs / 2 ^ 0 % 2 ^ 6)) + 64) : Int32) = nI ((z.natAbs / 2 ^ 0 % 2 ^ 6) + 64) from nI_add (z.natAbs / 2 ^ 0 % 2 ^ 6) 64]
    refine lv_iload_n hx hb d_M_putNumber_29 rfl (lv_at hl 0 rfl) ?_
    refine lv_bipush (v := 6) hx hb d_M_putNumber_30 (by decide) ?_
    refine lv_icmp_le (tgt := 41) hx hb d_M_putNumber_32 (by decide) (fun c11 => ?_) (fun c11 => ?_)
    · have nc11 : (nb z.natAbs) ≤ 6 := (nI_leI (a := (nb z.natAbs)) (b := 6) (by omega) (by omega)).mp c11
      refine lv_iconst (v := 0) hx hb d_M_putNumber_41 (by decide) ?_
      refine lv_iadd hx hb d_M_putNumber_42 ?_
      rw [show (((nI ((z.natAbs / 2 ^ 0 % 2 ^ 6) + 64)) + 0) : Int32) = nI (((z.natAbs / 2 ^ 0 % 2 ^ 6) + 64) + 0) from nI_add ((z.natAbs / 2 ^ 0 % 2 ^ 6) + 64) 0]
      refine z_callQ (va_runV (C := "ValueTreesModel") (As := [.int (nI (((z.natAbs / 2 ^ 0 % 2 ^ 6) + 64) + 0))]) (rest := []) ⟨hx, hb, hml, hown, hts⟩ (c_M_lay l D dT _ mm wd lf rt tc ty F sz Wk (bs ++ [0 % 256]) dg dc sh hM hW (((z.natAbs / 2 ^ 0 % 2 ^ 6) + 64) + 0) (by (try simp only [List.length_append, List.length_cons, List.length_nil, size4_len]); omega)) ⟨callB_of 1 hts (gI gd_up gd_c q635) rfl rfl rfl (ht _ q10) (ht _ q632) hd_M_lay ⟨Nat.le_of_ble_eq_true rfl, Nat.le_of_ble_eq_true rfl⟩, ht _ q634, ht _ qs22⟩ (z_preV hK (va_recv hK.1 hM.1 (ci := 10) (q0 := 0) rfl rfl)) rfl rfl hl.1 rfl (lv_room (Nat.le_of_ble_eq_true rfl)) d_M_putNumber_43 ⟨Nat.le_refl _, Nat.le_refl _⟩) hS (fun _ h9 => h9) (fun v13 H locs hv12 hz14 hf15 hS => ?_)
      obtain ⟨rfl, Wk, hW, hWk16, hM⟩ := hv12
      refine W.eq (g2 := F0 m 46 ls []) rfl ?_
      refine lv_bipush (v := 6) hx hb d_M_putNumber_46 (by decide) ?_
      refine lv_istore_n (lv' := [(3, .int 6), (2, .int (nI (nb z.natAbs))), (0, .ref (mm 0)), (1, .int 1)]) hx hb d_M_putNumber_48 rfl hl (by decide) rfl (fun ls hl => ?_)
      have e9 : bs ++ [0 % 256] ++ [(((z.natAbs / 2 ^ 0 % 2 ^ 6) + 64) + 0) % 256] = bs ++ (0 :: (nser z).take (1 + 0)) := by
        rw [take_1, if_pos hz]
        first | rw [if_pos (show 6 < nb z.natAbs by omega)] | rw [if_neg (show ¬ 6 < nb z.natAbs by omega)]
        rw [List.append_assoc]
        congr 1
        show [0, _] = [0, _]
        congr 2
        omega
      rw [e9] at hW hM
      have loop17 : ∀ (n499 : Nat) (j : Nat), (j ≤ nb z.natAbs / 7) → nb z.natAbs / 7 - j < n499 → ∀ (H : Heap) (locs : List Loc) (Wk : Nat → Nat), wAt Wk (bs ++ (0 :: (nser z).take (1 + j))) → mAt D dT mm wd lf rt tc ty F sz Wk ((bs ++ (0 :: (nser z).take (1 + j))).length) dg dc sh H → va_S (mA mm) s.heap H locs → ∀ (ls : Array Slot), lv_has ls 4 [(3, .int (nI (6 + 7 * j))), (2, .int (nI (nb z.natAbs))), (0, .ref (mm 0)), (1, .int 1)] → W p l e (headSpec w_M_putNumber ({ frames := 2, cells := 0, slots := 0, locals := 46 })).room s m [.ref (mm 0), .int (if z < 0 then 1 else 0)].toArray below meth c H locs 0 0 (MQ below (z_Q (mA mm) (fun v H1 => v = none ∧ ∃ Wk', wAt Wk' (bs ++ (0 :: nser z)) ∧ mAt D dT mm wd lf rt tc ty F sz Wk' ((bs ++ (0 :: nser z)).length) dg dc sh H1)) [.ref (mm 0), .int (if z < 0 then 1 else 0)].toArray s 0 0 (mA mm)) (F0 m 49 ls []) := by
        intro n499
        induction n499 with
        | zero =>
          intro j hj h499
          exact absurd h499 (Nat.not_lt_zero _)
        | succ n499 ih49 =>
          intro j hj h499 H locs Wk hW hM hS ls hl
          have htk : ((nser z).take (1 + j)).length = 1 + j := by rw [List.length_take]; omega
          refine lv_iload_n hx hb d_M_putNumber_49 rfl (lv_at hl 0 rfl) ?_
          refine lv_iload_n hx hb d_M_putNumber_50 rfl (lv_at hl 1 rfl) ?_
          refine lv_icmp_ge (tgt := 87) hx hb d_M_putNumber_51 (by decide) (fun c18 => ?_) (fun c18 => ?_)
          · have nc18 : (nb z.natAbs) ≤ (6 + 7 * j) := (nI_leI (a := (nb z.natAbs)) (b := (6 + 7 * j)) (by omega) (by omega)).mp c18
            refine z_vretQ hx hb hr hlocks d_M_putNumber_87 hS (Nat.le_refl _) (Nat.le_refl _) ?_
            have e9 : j = nb z.natAbs / 7 := by omega
            have e8 : (nser z).take (1 + j) = nser z := List.take_of_length_le (by omega)
            rw [e8] at hW hM
            exact ⟨rfl, Wk, hW, hM⟩
          · have nc18 : ¬ (nb z.natAbs) ≤ (6 + 7 * j) := fun h9 => c18 ((nI_leI (a := (nb z.natAbs)) (b := (6 + 7 * j)) (by omega) (by omega)).mpr h9)
            refine lv_aload_n hx hb d_M_putNumber_54 rfl (lv_at hl 2 rfl) ?_
            refine lv_aload_n hx hb d_M_putNumber_55 rfl (lv_at hl 2 rfl) ?_
            refine lv_iload_n hx hb d_M_putNumber_56 rfl (lv_at hl 0 rfl) ?_
            refine lv_bipush (v := 7) hx hb d_M_putNumber_57 (by decide) ?_
            refine z_callR (va_runV (C := "ValueTreesModel") (As := [.int (nI (6 + 7 * j)), .int 7]) (rest := [.ref (mm 0)]) ⟨hx, hb, hml, hown, hts⟩ (c_M_bitsFrom l D dT _ mm wd lf rt tc ty F sz Wk ((bs ++ (0 :: (nser z).take (1 + j))).length) dg dc sh hM hd hdc (6 + 7 * j) 7 (by omega) (by omega)) ⟨callB_of 2 hts (gI gd_up gd_c q639) rfl rfl rfl (ht _ q10) (ht _ q636) hd_M_bitsFrom ⟨Nat.le_of_ble_eq_true rfl, Nat.le_of_ble_eq_true rfl⟩, ht _ q638, ht _ qs23⟩ (z_preV hK (va_recv hK.1 hM.1 (ci := 10) (q0 := 0) rfl rfl)) rfl rfl hl.1 rfl (lv_room (Nat.le_of_ble_eq_true rfl)) d_M_putNumber_59 ⟨Nat.zero_le _, Nat.zero_le _⟩) (fun v20 hv19 => ?_)
            have hv19 : v20 = .int (nI (z.natAbs / 2 ^ (6 + 7 * j) % 2 ^ 7)) := by rw [← hdv]; exact hv19
            subst hv19
            refine lv_iload_n hx hb d_M_putNumber_62 rfl (lv_at hl 0 rfl) ?_
            refine lv_bipush (v := 7) hx hb d_M_putNumber_63 (by decide) ?_
            refine lv_iadd hx hb d_M_putNumber_65 ?_
            rw [show (((nI (6 + 7 * j)) + 7) : Int32) = nI ((6 + 7 * j) + 7) from nI_add (6 + 7 * j) 7]
            refine lv_iload_n hx hb d_M_putNumber_66 rfl (lv_at hl 1 rfl) ?_
            refine lv_icmp_ge (tgt := 76) hx hb d_M_putNumber_67 (by decide) (fun c21 => ?_) (fun c21 => ?_)
            · have nc21 : (nb z.natAbs) ≤ ((6 + 7 * j) + 7) := (nI_leI (a := (nb z.natAbs)) (b := ((6 + 7 * j) + 7)) (by omega) (by omega)).mp c21
              refine lv_iconst (v := 0) hx hb d_M_putNumber_76 (by decide) ?_
              refine lv_iadd hx hb d_M_putNumber_77 ?_
              rw [show (((nI (z.natAbs / 2 ^ (6 + 7 * j) % 2 ^ 7)) + 0) : Int32) = nI ((z.natAbs / 2 ^ (6 + 7 * j) % 2 ^ 7) + 0) from nI_add (z.natAbs / 2 ^ (6 + 7 * j) % 2 ^ 7) 0]
              refine z_callQ (va_runV (C := "ValueTreesModel") (As := [.int (nI ((z.natAbs / 2 ^ (6 + 7 * j) % 2 ^ 7) + 0))]) (rest := []) ⟨hx, hb, hml, hown, hts⟩ (c_M_lay l D dT _ mm wd lf rt tc ty F sz Wk (bs ++ (0 :: (nser z).take (1 + j))) dg dc sh hM hW ((z.natAbs / 2 ^ (6 + 7 * j) % 2 ^ 7) + 0) (by (try simp only [List.length_append, List.length_cons, List.length_nil, size4_len]); omega)) ⟨callB_of 1 hts (gI gd_up gd_c q635) rfl rfl rfl (ht _ q10) (ht _ q632) hd_M_lay ⟨Nat.le_of_ble_eq_true rfl, Nat.le_of_ble_eq_true rfl⟩, ht _ q634, ht _ qs22⟩ (z_preV hK (va_recv hK.1 hM.1 (ci := 10) (q0 := 0) rfl rfl)) rfl rfl hl.1 rfl (lv_room (Nat.le_of_ble_eq_true rfl)) d_M_putNumber_78 ⟨Nat.le_refl _, Nat.le_refl _⟩) hS (fun _ h9 => h9) (fun v23 H locs hv22 hz24 hf25 hS => ?_)
              obtain ⟨rfl, Wk, hW, hWk26, hM⟩ := hv22
              refine W.eq (g2 := F0 m 81 ls []) rfl ?_
              refine lv_iinc (v := (nI (6 + 7 * (j + 1)))) (lv' := [(3, .int (nI (6 + 7 * (j + 1)))), (2, .int (nI (nb z.natAbs))), (0, .ref (mm 0)), (1, .int 1)]) hx hb d_M_putNumber_81 hl (k := 0) rfl (nI_add (6 + 7 * j) 7) (by decide) rfl (fun ls hl => ?_)
              refine lv_goto (tgt := 49) hx hb d_M_putNumber_84 (by decide) ?_
              have e9 : bs ++ (0 :: (nser z).take (1 + j)) ++ [((z.natAbs / 2 ^ (6 + 7 * j) % 2 ^ 7) + 0) % 256] = bs ++ (0 :: (nser z).take (1 + (j + 1))) := by
                rw [← take_n (show j < nb z.natAbs / 7 by omega), List.append_assoc]
                congr 1
                show 0 :: ((nser z).take (1 + j) ++ [_]) = 0 :: ((nser z).take (1 + j) ++ [_])
                congr 3
                unfold nbyte
                first | rw [if_pos (show 13 + 7 * j < nb z.natAbs by omega)] | rw [if_neg (show ¬ 13 + 7 * j < nb z.natAbs by omega)]
                omega
              rw [e9] at hW hM
              exact ih49 (j + 1) (by omega) (by omega) _ _ Wk hW hM hS ls (lv_sub hl [0, 1, 2, 3] rfl)
            · have nc21 : ¬ (nb z.natAbs) ≤ ((6 + 7 * j) + 7) := fun h9 => c21 ((nI_leI (a := (nb z.natAbs)) (b := ((6 + 7 * j) + 7)) (by omega) (by omega)).mpr h9)
              refine lv_sipush (v := 128) hx hb d_M_putNumber_70 (by decide) ?_
              refine lv_goto (tgt := 77) hx hb d_M_putNumber_73 (by decide) ?_
              refine lv_iadd hx hb d_M_putNumber_77 ?_
              rw [show (((nI (z.natAbs / 2 ^ (6 + 7 * j) % 2 ^ 7)) + 128) : Int32) = nI ((z.natAbs / 2 ^ (6 + 7 * j) % 2 ^ 7) + 128) from nI_add (z.natAbs / 2 ^ (6 + 7 * j) % 2 ^ 7) 128]
              refine z_callQ (va_runV (C := "ValueTreesModel") (As := [.int (nI ((z.natAbs / 2 ^ (6 + 7 * j) % 2 ^ 7) + 128))]) (rest := []) ⟨hx, hb, hml, hown, hts⟩ (c_M_lay l D dT _ mm wd lf rt tc ty F sz Wk (bs ++ (0 :: (nser z).take (1 + j))) dg dc sh hM hW ((z.natAbs / 2 ^ (6 + 7 * j) % 2 ^ 7) + 128) (by (try simp only [List.length_append, List.length_cons, List.length_nil, size4_len]); omega)) ⟨callB_of 1 hts (gI gd_up gd_c q635) rfl rfl rfl (ht _ q10) (ht _ q632) hd_M_lay ⟨Nat.le_of_ble_eq_true rfl, Nat.le_of_ble_eq_true rfl⟩, ht _ q634, ht _ qs22⟩ (z_preV hK (va_recv hK.1 hM.1 (ci := 10) (q0 := 0) rfl rfl)) rfl rfl hl.1 rfl (lv_room (Nat.le_of_ble_eq_true rfl)) d_M_putNumber_78 ⟨Nat.le_refl _, Nat.le_refl _⟩) hS (fun _ h9 => h9) (fun v28 H locs hv27 hz29 hf30 hS => ?_)
              obtain ⟨rfl, Wk, hW, hWk31, hM⟩ := hv27
              refine W.eq (g2 := F0 m 81 ls []) rfl ?_
              refine lv_iinc (v := (nI (6 + 7 * (j + 1)))) (lv' := [(3, .int (nI (6 + 7 * (j + 1)))), (2, .int (nI (nb z.natAbs))), (0, .ref (mm 0)), (1, .int 1)]) hx hb d_M_putNumber_81 hl (k := 0) rfl (nI_add (6 + 7 * j) 7) (by decide) rfl (fun ls hl => ?_)
              refine lv_goto (tgt := 49) hx hb d_M_putNumber_84 (by decide) ?_
              have e9 : bs ++ (0 :: (nser z).take (1 + j)) ++ [((z.natAbs / 2 ^ (6 + 7 * j) % 2 ^ 7) + 128) % 256] = bs ++ (0 :: (nser z).take (1 + (j + 1))) := by
                rw [← take_n (show j < nb z.natAbs / 7 by omega), List.append_assoc]
                congr 1
                show 0 :: ((nser z).take (1 + j) ++ [_]) = 0 :: ((nser z).take (1 + j) ++ [_])
                congr 3
                unfold nbyte
                first | rw [if_pos (show 13 + 7 * j < nb z.natAbs by omega)] | rw [if_neg (show ¬ 13 + 7 * j < nb z.natAbs by omega)]
                omega
              rw [e9] at hW hM
              exact ih49 (j + 1) (by omega) (by omega) _ _ Wk hW hM hS ls (lv_sub hl [0, 1, 2, 3] rfl)
      exact loop17 (nb z.natAbs / 7 + 1) 0 (by omega) (by omega) _ _ Wk hW hM hS ls (lv_sub hl [0, 1, 2, 3] rfl)
    · have nc11 : ¬ (nb z.natAbs) ≤ 6 := fun h9 => c11 ((nI_leI (a := (nb z.natAbs)) (b := 6) (by omega) (by omega)).mpr h9)
      refine lv_sipush (v := 128) hx hb d_M_putNumber_35 (by decide) ?_
      refine lv_goto (tgt := 42) hx hb d_M_putNumber_38 (by decide) ?_
      refine lv_iadd hx hb d_M_putNumber_42 ?_
      rw [show (((nI ((z.natAbs / 2 ^ 0 % 2 ^ 6) + 64)) + 128) : Int32) = nI (((z.natAbs / 2 ^ 0 % 2 ^ 6) + 64) + 128) from nI_add ((z.natAbs / 2 ^ 0 % 2 ^ 6) + 64) 128]
      refine z_callQ (va_runV (C := "ValueTreesModel") (As := [.int (nI (((z.natAbs / 2 ^ 0 % 2 ^ 6) + 64) + 128))]) (rest := []) ⟨hx, hb, hml, hown, hts⟩ (c_M_lay l D dT _ mm wd lf rt tc ty F sz Wk (bs ++ [0 % 256]) dg dc sh hM hW (((z.natAbs / 2 ^ 0 % 2 ^ 6) + 64) + 128) (by (try simp only [List.length_append, List.length_cons, List.length_nil, size4_len]); omega)) ⟨callB_of 1 hts (gI gd_up gd_c q635) rfl rfl rfl (ht _ q10) (ht _ q632) hd_M_lay ⟨Nat.le_of_ble_eq_true rfl, Nat.le_of_ble_eq_true rfl⟩, ht _ q634, ht _ qs22⟩ (z_preV hK (va_recv hK.1 hM.1 (ci := 10) (q0 := 0) rfl rfl)) rfl rfl hl.1 rfl (lv_room (Nat.le_of_ble_eq_true rfl)) d_M_putNumber_43 ⟨Nat.le_refl _, Nat.le_refl _⟩) hS (fun _ h9 => h9) (fun v33 H locs hv32 hz34 hf35 hS => ?_)
      obtain ⟨rfl, Wk, hW, hWk36, hM⟩ := hv32
      refine W.eq (g2 := F0 m 46 ls []) rfl ?_
      refine lv_bipush (v := 6) hx hb d_M_putNumber_46 (by decide) ?_
      refine lv_istore_n (lv' := [(3, .int 6), (2, .int (nI (nb z.natAbs))), (0, .ref (mm 0)), (1, .int 1)]) hx hb d_M_putNumber_48 rfl hl (by decide) rfl (fun ls hl => ?_)
      have e9 : bs ++ [0 % 256] ++ [(((z.natAbs / 2 ^ 0 % 2 ^ 6) + 64) + 128) % 256] = bs ++ (0 :: (nser z).take (1 + 0)) := by
        rw [take_1, if_pos hz]
        first | rw [if_pos (show 6 < nb z.natAbs by omega)] | rw [if_neg (show ¬ 6 < nb z.natAbs by omega)]
        rw [List.append_assoc]
        congr 1
        show [0, _] = [0, _]
        congr 2
        omega
      rw [e9] at hW hM
      have loop37 : ∀ (n499 : Nat) (j : Nat), (j ≤ nb z.natAbs / 7) → nb z.natAbs / 7 - j < n499 → ∀ (H : Heap) (locs : List Loc) (Wk : Nat → Nat), wAt Wk (bs ++ (0 :: (nser z).take (1 + j))) → mAt D dT mm wd lf rt tc ty F sz Wk ((bs ++ (0 :: (nser z).take (1 + j))).length) dg dc sh H → va_S (mA mm) s.heap H locs → ∀ (ls : Array Slot), lv_has ls 4 [(3, .int (nI (6 + 7 * j))), (2, .int (nI (nb z.natAbs))), (0, .ref (mm 0)), (1, .int 1)] → W p l e (headSpec w_M_putNumber ({ frames := 2, cells := 0, slots := 0, locals := 46 })).room s m [.ref (mm 0), .int (if z < 0 then 1 else 0)].toArray below meth c H locs 0 0 (MQ below (z_Q (mA mm) (fun v H1 => v = none ∧ ∃ Wk', wAt Wk' (bs ++ (0 :: nser z)) ∧ mAt D dT mm wd lf rt tc ty F sz Wk' ((bs ++ (0 :: nser z)).length) dg dc sh H1)) [.ref (mm 0), .int (if z < 0 then 1 else 0)].toArray s 0 0 (mA mm)) (F0 m 49 ls []) := by
        intro n499
        induction n499 with
        | zero =>
          intro j hj h499
          exact absurd h499 (Nat.not_lt_zero _)
        | succ n499 ih49 =>
          intro j hj h499 H locs Wk hW hM hS ls hl
          have htk : ((nser z).take (1 + j)).length = 1 + j := by rw [List.length_take]; omega
          refine lv_iload_n hx hb d_M_putNumber_49 rfl (lv_at hl 0 rfl) ?_
          refine lv_iload_n hx hb d_M_putNumber_50 rfl (lv_at hl 1 rfl) ?_
          refine lv_icmp_ge (tgt := 87) hx hb d_M_putNumber_51 (by decide) (fun c38 => ?_) (fun c38 => ?_)
          · have nc38 : (nb z.natAbs) ≤ (6 + 7 * j) := (nI_leI (a := (nb z.natAbs)) (b := (6 + 7 * j)) (by omega) (by omega)).mp c38
            refine z_vretQ hx hb hr hlocks d_M_putNumber_87 hS (Nat.le_refl _) (Nat.le_refl _) ?_
            have e9 : j = nb z.natAbs / 7 := by omega
            have e8 : (nser z).take (1 + j) = nser z := List.take_of_length_le (by omega)
            rw [e8] at hW hM
            exact ⟨rfl, Wk, hW, hM⟩
          · have nc38 : ¬ (nb z.natAbs) ≤ (6 + 7 * j) := fun h9 => c38 ((nI_leI (a := (nb z.natAbs)) (b := (6 + 7 * j)) (by omega) (by omega)).mpr h9)
            refine lv_aload_n hx hb d_M_putNumber_54 rfl (lv_at hl 2 rfl) ?_
            refine lv_aload_n hx hb d_M_putNumber_55 rfl (lv_at hl 2 rfl) ?_
            refine lv_iload_n hx hb d_M_putNumber_56 rfl (lv_at hl 0 rfl) ?_
            refine lv_bipush (v := 7) hx hb d_M_putNumber_57 (by decide) ?_
            refine z_callR (va_runV (C := "ValueTreesModel") (As := [.int (nI (6 + 7 * j)), .int 7]) (rest := [.ref (mm 0)]) ⟨hx, hb, hml, hown, hts⟩ (c_M_bitsFrom l D dT _ mm wd lf rt tc ty F sz Wk ((bs ++ (0 :: (nser z).take (1 + j))).length) dg dc sh hM hd hdc (6 + 7 * j) 7 (by omega) (by omega)) ⟨callB_of 2 hts (gI gd_up gd_c q639) rfl rfl rfl (ht _ q10) (ht _ q636) hd_M_bitsFrom ⟨Nat.le_of_ble_eq_true rfl, Nat.le_of_ble_eq_true rfl⟩, ht _ q638, ht _ qs23⟩ (z_preV hK (va_recv hK.1 hM.1 (ci := 10) (q0 := 0) rfl rfl)) rfl rfl hl.1 rfl (lv_room (Nat.le_of_ble_eq_true rfl)) d_M_putNumber_59 ⟨Nat.zero_le _, Nat.zero_le _⟩) (fun v40 hv39 => ?_)
            have hv39 : v40 = .int (nI (z.natAbs / 2 ^ (6 + 7 * j) % 2 ^ 7)) := by rw [← hdv]; exact hv39
            subst hv39
            refine lv_iload_n hx hb d_M_putNumber_62 rfl (lv_at hl 0 rfl) ?_
            refine lv_bipush (v := 7) hx hb d_M_putNumber_63 (by decide) ?_
            refine lv_iadd hx hb d_M_putNumber_65 ?_
            rw [show (((nI (6 + 7 * j)) + 7) : Int32) = nI ((6 + 7 * j) + 7) from nI_add (6 + 7 * j) 7]
            refine lv_iload_n hx hb d_M_putNumber_66 rfl (lv_at hl 1 rfl) ?_
            refine lv_icmp_ge (tgt := 76) hx hb d_M_putNumber_67 (by decide) (fun c41 => ?_) (fun c41 => ?_)
            · have nc41 : (nb z.natAbs) ≤ ((6 + 7 * j) + 7) := (nI_leI (a := (nb z.natAbs)) (b := ((6 + 7 * j) + 7)) (by omega) (by omega)).mp c41
              refine lv_iconst (v := 0) hx hb d_M_putNumber_76 (by decide) ?_
              refine lv_iadd hx hb d_M_putNumber_77 ?_
              rw [show (((nI (z.natAbs / 2 ^ (6 + 7 * j) % 2 ^ 7)) + 0) : Int32) = nI ((z.natAbs / 2 ^ (6 + 7 * j) % 2 ^ 7) + 0) from nI_add (z.natAbs / 2 ^ (6 + 7 * j) % 2 ^ 7) 0]
              refine z_callQ (va_runV (C := "ValueTreesModel") (As := [.int (nI ((z.natAbs / 2 ^ (6 + 7 * j) % 2 ^ 7) + 0))]) (rest := []) ⟨hx, hb, hml, hown, hts⟩ (c_M_lay l D dT _ mm wd lf rt tc ty F sz Wk (bs ++ (0 :: (nser z).take (1 + j))) dg dc sh hM hW ((z.natAbs / 2 ^ (6 + 7 * j) % 2 ^ 7) + 0) (by (try simp only [List.length_append, List.length_cons, List.length_nil, size4_len]); omega)) ⟨callB_of 1 hts (gI gd_up gd_c q635) rfl rfl rfl (ht _ q10) (ht _ q632) hd_M_lay ⟨Nat.le_of_ble_eq_true rfl, Nat.le_of_ble_eq_true rfl⟩, ht _ q634, ht _ qs22⟩ (z_preV hK (va_recv hK.1 hM.1 (ci := 10) (q0 := 0) rfl rfl)) rfl rfl hl.1 rfl (lv_room (Nat.le_of_ble_eq_true rfl)) d_M_putNumber_78 ⟨Nat.le_refl _, Nat.le_refl _⟩) hS (fun _ h9 => h9) (fun v43 H locs hv42 hz44 hf45 hS => ?_)
              obtain ⟨rfl, Wk, hW, hWk46, hM⟩ := hv42
              refine W.eq (g2 := F0 m 81 ls []) rfl ?_
              refine lv_iinc (v := (nI (6 + 7 * (j + 1)))) (lv' := [(3, .int (nI (6 + 7 * (j + 1)))), (2, .int (nI (nb z.natAbs))), (0, .ref (mm 0)), (1, .int 1)]) hx hb d_M_putNumber_81 hl (k := 0) rfl (nI_add (6 + 7 * j) 7) (by decide) rfl (fun ls hl => ?_)
              refine lv_goto (tgt := 49) hx hb d_M_putNumber_84 (by decide) ?_
              have e9 : bs ++ (0 :: (nser z).take (1 + j)) ++ [((z.natAbs / 2 ^ (6 + 7 * j) % 2 ^ 7) + 0) % 256] = bs ++ (0 :: (nser z).take (1 + (j + 1))) := by
                rw [← take_n (show j < nb z.natAbs / 7 by omega), List.append_assoc]
                congr 1
                show 0 :: ((nser z).take (1 + j) ++ [_]) = 0 :: ((nser z).take (1 + j) ++ [_])
                congr 3
                unfold nbyte
                first | rw [if_pos (show 13 + 7 * j < nb z.natAbs by omega)] | rw [if_neg (show ¬ 13 + 7 * j < nb z.natAbs by omega)]
                omega
              rw [e9] at hW hM
              exact ih49 (j + 1) (by omega) (by omega) _ _ Wk hW hM hS ls (lv_sub hl [0, 1, 2, 3] rfl)
            · have nc41 : ¬ (nb z.natAbs) ≤ ((6 + 7 * j) + 7) := fun h9 => c41 ((nI_leI (a := (nb z.natAbs)) (b := ((6 + 7 * j) + 7)) (by omega) (by omega)).mpr h9)
              refine lv_sipush (v := 128) hx hb d_M_putNumber_70 (by decide) ?_
              refine lv_goto (tgt := 77) hx hb d_M_putNumber_73 (by decide) ?_
              refine lv_iadd hx hb d_M_putNumber_77 ?_
              rw [show (((nI (z.natAbs / 2 ^ (6 + 7 * j) % 2 ^ 7)) + 128) : Int32) = nI ((z.natAbs / 2 ^ (6 + 7 * j) % 2 ^ 7) + 128) from nI_add (z.natAbs / 2 ^ (6 + 7 * j) % 2 ^ 7) 128]
              refine z_callQ (va_runV (C := "ValueTreesModel") (As := [.int (nI ((z.natAbs / 2 ^ (6 + 7 * j) % 2 ^ 7) + 128))]) (rest := []) ⟨hx, hb, hml, hown, hts⟩ (c_M_lay l D dT _ mm wd lf rt tc ty F sz Wk (bs ++ (0 :: (nser z).take (1 + j))) dg dc sh hM hW ((z.natAbs / 2 ^ (6 + 7 * j) % 2 ^ 7) + 128) (by (try simp only [List.length_append, List.length_cons, List.length_nil, size4_len]); omega)) ⟨callB_of 1 hts (gI gd_up gd_c q635) rfl rfl rfl (ht _ q10) (ht _ q632) hd_M_lay ⟨Nat.le_of_ble_eq_true rfl, Nat.le_of_ble_eq_true rfl⟩, ht _ q634, ht _ qs22⟩ (z_preV hK (va_recv hK.1 hM.1 (ci := 10) (q0 := 0) rfl rfl)) rfl rfl hl.1 rfl (lv_room (Nat.le_of_ble_eq_true rfl)) d_M_putNumber_78 ⟨Nat.le_refl _, Nat.le_refl _⟩) hS (fun _ h9 => h9) (fun v48 H locs hv47 hz49 hf50 hS => ?_)
              obtain ⟨rfl, Wk, hW, hWk51, hM⟩ := hv47
              refine W.eq (g2 := F0 m 81 ls []) rfl ?_
              refine lv_iinc (v := (nI (6 + 7 * (j + 1)))) (lv' := [(3, .int (nI (6 + 7 * (j + 1)))), (2, .int (nI (nb z.natAbs))), (0, .ref (mm 0)), (1, .int 1)]) hx hb d_M_putNumber_81 hl (k := 0) rfl (nI_add (6 + 7 * j) 7) (by decide) rfl (fun ls hl => ?_)
              refine lv_goto (tgt := 49) hx hb d_M_putNumber_84 (by decide) ?_
              have e9 : bs ++ (0 :: (nser z).take (1 + j)) ++ [((z.natAbs / 2 ^ (6 + 7 * j) % 2 ^ 7) + 128) % 256] = bs ++ (0 :: (nser z).take (1 + (j + 1))) := by
                rw [← take_n (show j < nb z.natAbs / 7 by omega), List.append_assoc]
                congr 1
                show 0 :: ((nser z).take (1 + j) ++ [_]) = 0 :: ((nser z).take (1 + j) ++ [_])
                congr 3
                unfold nbyte
                first | rw [if_pos (show 13 + 7 * j < nb z.natAbs by omega)] | rw [if_neg (show ¬ 13 + 7 * j < nb z.natAbs by omega)]
                omega
              rw [e9] at hW hM
              exact ih49 (j + 1) (by omega) (by omega) _ _ Wk hW hM hS ls (lv_sub hl [0, 1, 2, 3] rfl)
      exact loop37 (nb z.natAbs / 7 + 1) 0 (by omega) (by omega) _ _ Wk hW hM hS ls (lv_sub hl [0, 1, 2, 3] rfl)
  · rw [if_neg hz] at hl
    refine lv_aload_n hx hb d_M_putNumber_0 rfl (lv_at hl 0 rfl) ?_
    refine z_callR (va_runV (C := "ValueTreesModel") (As := []) (rest := []) ⟨hx, hb, hml, hown, hts⟩ (c_M_bits l D dT _ mm wd lf rt tc ty F sz Wk bs.length dg dc sh hM hd hdc htr) ⟨callB_of 0 hts (gI gd_up gd_c q631) rfl rfl rfl (ht _ q10) (ht _ q628) hd_M_bits ⟨Nat.le_of_ble_eq_true rfl, Nat.le_of_ble_eq_true rfl⟩, ht _ q630, ht _ qs21⟩ (z_preV hK (va_recv hK.1 hM.1 (ci := 10) (q0 := 0) rfl rfl)) rfl rfl hl.1 rfl (lv_room (Nat.le_of_ble_eq_true rfl)) d_M_putNumber_1 ⟨Nat.zero_le _, Nat.zero_le _⟩) (fun v53 hv52 => ?_)
    have hv52 : v53 = .int (nI (nb z.natAbs)) := by rw [← hdv]; exact hv52
    subst hv52
    refine lv_istore_n (lv' := [(2, .int (nI (nb z.natAbs))), (0, .ref (mm 0)), (1, .int 0)]) hx hb d_M_putNumber_4 rfl hl (by decide) rfl (fun ls hl => ?_)
    refine lv_aload_n hx hb d_M_putNumber_5 rfl (lv_at hl 1 rfl) ?_
    refine lv_iconst (v := 0) hx hb d_M_putNumber_6 (by decide) ?_
    refine z_callQ (va_runV (C := "ValueTreesModel") (As := [.int 0]) (rest := []) ⟨hx, hb, hml, hown, hts⟩ (c_M_lay l D dT _ mm wd lf rt tc ty F sz Wk bs dg dc sh hM hW 0 (by (try simp only [List.length_append, List.length_cons, List.length_nil, size4_len]); omega)) ⟨callB_of 1 hts (gI gd_up gd_c q635) rfl rfl rfl (ht _ q10) (ht _ q632) hd_M_lay ⟨Nat.le_of_ble_eq_true rfl, Nat.le_of_ble_eq_true rfl⟩, ht _ q634, ht _ qs22⟩ (z_preV hK (va_recv hK.1 hM.1 (ci := 10) (q0 := 0) rfl rfl)) rfl rfl hl.1 rfl (lv_room (Nat.le_of_ble_eq_true rfl)) d_M_putNumber_7 ⟨Nat.le_refl _, Nat.le_refl _⟩) hS (fun _ h9 => h9) (fun v55 H locs hv54 hz56 hf57 hS => ?_)
    obtain ⟨rfl, Wk, hW, hWk58, hM⟩ := hv54
    refine W.eq (g2 := F0 m 10 ls []) rfl ?_
    refine lv_aload_n hx hb d_M_putNumber_10 rfl (lv_at hl 1 rfl) ?_
    refine lv_aload_n hx hb d_M_putNumber_11 rfl (lv_at hl 1 rfl) ?_
    refine lv_iconst (v := 0) hx hb d_M_putNumber_12 (by decide) ?_
    refine lv_bipush (v := 6) hx hb d_M_putNumber_13 (by decide) ?_
    refine z_callR (va_runV (C := "ValueTreesModel") (As := [.int 0, .int 6]) (rest := [.ref (mm 0)]) ⟨hx, hb, hml, hown, hts⟩ (c_M_bitsFrom l D dT _ mm wd lf rt tc ty F sz Wk ((bs ++ [0 % 256]).length) dg dc sh hM hd hdc 0 6 (by omega) (by omega)) ⟨callB_of 2 hts (gI gd_up gd_c q639) rfl rfl rfl (ht _ q10) (ht _ q636) hd_M_bitsFrom ⟨Nat.le_of_ble_eq_true rfl, Nat.le_of_ble_eq_true rfl⟩, ht _ q638, ht _ qs23⟩ (z_preV hK (va_recv hK.1 hM.1 (ci := 10) (q0 := 0) rfl rfl)) rfl rfl hl.1 rfl (lv_room (Nat.le_of_ble_eq_true rfl)) d_M_putNumber_15 ⟨Nat.zero_le _, Nat.zero_le _⟩) (fun v60 hv59 => ?_)
    have hv59 : v60 = .int (nI (z.natAbs / 2 ^ 0 % 2 ^ 6)) := by rw [← hdv]; exact hv59
    subst hv59
    refine lv_iload_n hx hb d_M_putNumber_18 rfl (lv_at hl 2 rfl) ?_
    refine lv_if_eq (tgt := 27) hx hb d_M_putNumber_19 (by decide) (fun _ => ?_) (fun c61 => absurd c61 (by decide))
    refine lv_iconst (v := 0) hx hb d_M_putNumber_27 (by decide) ?_
    refine lv_iadd hx hb d_M_putNumber_28 ?_
    rw [show (((nI (z.natAbs / 2 ^ 0 % 2 ^ 6)) + 0) : Int32) = nI ((z.natAbs / 2 ^ 0 % 2 ^ 6) + 0) from nI_add (z.natAbs / 2 ^ 0 % 2 ^ 6) 0]
    refine lv_iload_n hx hb d_M_putNumber_29 rfl (lv_at hl 0 rfl) ?_
    refine lv_bipush (v := 6) hx hb d_M_putNumber_30 (by decide) ?_
    refine lv_icmp_le (tgt := 41) hx hb d_M_putNumber_32 (by decide) (fun c62 => ?_) (fun c62 => ?_)
    · have nc62 : (nb z.natAbs) ≤ 6 := (nI_leI (a := (nb z.natAbs)) (b := 6) (by omega) (by omega)).mp c62
      refine lv_iconst (v := 0) hx hb d_M_putNumber_41 (by decide) ?_
      refine lv_iadd hx hb d_M_putNumber_42 ?_
      rw [show (((nI ((z.natAbs / 2 ^ 0 % 2 ^ 6) + 0)) + 0) : Int32) = nI (((z.natAbs / 2 ^ 0 % 2 ^ 6) + 0) + 0) from nI_add ((z.natAbs / 2 ^ 0 % 2 ^ 6) + 0) 0]
      refine z_callQ (va_runV (C := "ValueTreesModel") (As := [.int (nI (((z.natAbs / 2 ^ 0 % 2 ^ 6) + 0) + 0))]) (rest := []) ⟨hx, hb, hml, hown, hts⟩ (c_M_lay l D dT _ mm wd lf rt tc ty F sz Wk (bs ++ [0 % 256]) dg dc sh hM hW (((z.natAbs / 2 ^ 0 % 2 ^ 6) + 0) + 0) (by (try simp only [List.length_append, List.length_cons, List.length_nil, size4_len]); omega)) ⟨callB_of 1 hts (gI gd_up gd_c q635) rfl rfl rfl (ht _ q10) (ht _ q632) hd_M_lay ⟨Nat.le_of_ble_eq_true rfl, Nat.le_of_ble_eq_true rfl⟩, ht _ q634, ht _ qs22⟩ (z_preV hK (va_recv hK.1 hM.1 (ci := 10) (q0 := 0) rfl rfl)) rfl rfl hl.1 rfl (lv_room (Nat.le_of_ble_eq_true rfl)) d_M_putNumber_43 ⟨Nat.le_refl _, Nat.le_refl _⟩) hS (fun _ h9 => h9) (fun v64 H locs hv63 hz65 hf66 hS => ?_)
      obtain ⟨rfl, Wk, hW, hWk67, hM⟩ := hv63
      refine W.eq (g2 := F0 m 46 ls []) rfl ?_
      refine lv_bipush (v := 6) hx hb d_M_putNumber_46 (by decide) ?_
      refine lv_istore_n (lv' := [(3, .int 6), (2, .int (nI (nb z.natAbs))), (0, .ref (mm 0)), (1, .int 0)]) hx hb d_M_putNumber_48 rfl hl (by decide) rfl (fun ls hl => ?_)
      have e9 : bs ++ [0 % 256] ++ [(((z.natAbs / 2 ^ 0 % 2 ^ 6) + 0) + 0) % 256] = bs ++ (0 :: (nser z).take (1 + 0)) := by
        rw [take_1, if_neg hz]
        first | rw [if_pos (show 6 < nb z.natAbs by omega)] | rw [if_neg (show ¬ 6 < nb z.natAbs by omega)]
        rw [List.append_assoc]
        congr 1
        show [0, _] = [0, _]
        congr 2
        omega
      rw [e9] at hW hM
      have loop68 : ∀ (n499 : Nat) (j : Nat), (j ≤ nb z.natAbs / 7) → nb z.natAbs / 7 - j < n499 → ∀ (H : Heap) (locs : List Loc) (Wk : Nat → Nat), wAt Wk (bs ++ (0 :: (nser z).take (1 + j))) → mAt D dT mm wd lf rt tc ty F sz Wk ((bs ++ (0 :: (nser z).take (1 + j))).length) dg dc sh H → va_S (mA mm) s.heap H locs → ∀ (ls : Array Slot), lv_has ls 4 [(3, .int (nI (6 + 7 * j))), (2, .int (nI (nb z.natAbs))), (0, .ref (mm 0)), (1, .int 0)] → W p l e (headSpec w_M_putNumber ({ frames := 2, cells := 0, slots := 0, locals := 46 })).room s m [.ref (mm 0), .int (if z < 0 then 1 else 0)].toArray below meth c H locs 0 0 (MQ below (z_Q (mA mm) (fun v H1 => v = none ∧ ∃ Wk', wAt Wk' (bs ++ (0 :: nser z)) ∧ mAt D dT mm wd lf rt tc ty F sz Wk' ((bs ++ (0 :: nser z)).length) dg dc sh H1)) [.ref (mm 0), .int (if z < 0 then 1 else 0)].toArray s 0 0 (mA mm)) (F0 m 49 ls []) := by
        intro n499
        induction n499 with
        | zero =>
          intro j hj h499
          exact absurd h499 (Nat.not_lt_zero _)
        | succ n499 ih49 =>
          intro j hj h499 H locs Wk hW hM hS ls hl
          have htk : ((nser z).take (1 + j)).length = 1 + j := by rw [List.length_take]; omega
          refine lv_iload_n hx hb d_M_putNumber_49 rfl (lv_at hl 0 rfl) ?_
          refine lv_iload_n hx hb d_M_putNumber_50 rfl (lv_at hl 1 rfl) ?_
          refine lv_icmp_ge (tgt := 87) hx hb d_M_putNumber_51 (by decide) (fun c69 => ?_) (fun c69 => ?_)
          · have nc69 : (nb z.natAbs) ≤ (6 + 7 * j) := (nI_leI (a := (nb z.natAbs)) (b := (6 + 7 * j)) (by omega) (by omega)).mp c69
            refine z_vretQ hx hb hr hlocks d_M_putNumber_87 hS (Nat.le_refl _) (Nat.le_refl _) ?_
            have e9 : j = nb z.natAbs / 7 := by omega
            have e8 : (nser z).take (1 + j) = nser z := List.take_of_length_le (by omega)
            rw [e8] at hW hM
            exact ⟨rfl, Wk, hW, hM⟩
          · have nc69 : ¬ (nb z.natAbs) ≤ (6 + 7 * j) := fun h9 => c69 ((nI_leI (a := (nb z.natAbs)) (b := (6 + 7 * j)) (by omega) (by omega)).mpr h9)
            refine lv_aload_n hx hb d_M_putNumber_54 rfl (lv_at hl 2 rfl) ?_
            refine lv_aload_n hx hb d_M_putNumber_55 rfl (lv_at hl 2 rfl) ?_
            refine lv_iload_n hx hb d_M_putNumber_56 rfl (lv_at hl 0 rfl) ?_
            refine lv_bipush (v := 7) hx hb d_M_putNumber_57 (by decide) ?_
            refine z_callR (va_runV (C := "ValueTreesModel") (As := [.int (nI (6 + 7 * j)), .int 7]) (rest := [.ref (mm 0)]) ⟨hx, hb, hml, hown, hts⟩ (c_M_bitsFrom l D dT _ mm wd lf rt tc ty F sz Wk ((bs ++ (0 :: (nser z).take (1 + j))).length) dg dc sh hM hd hdc (6 + 7 * j) 7 (by omega) (by omega)) ⟨callB_of 2 hts (gI gd_up gd_c q639) rfl rfl rfl (ht _ q10) (ht _ q636) hd_M_bitsFrom ⟨Nat.le_of_ble_eq_true rfl, Nat.le_of_ble_eq_true rfl⟩, ht _ q638, ht _ qs23⟩ (z_preV hK (va_recv hK.1 hM.1 (ci := 10) (q0 := 0) rfl rfl)) rfl rfl hl.1 rfl (lv_room (Nat.le_of_ble_eq_true rfl)) d_M_putNumber_59 ⟨Nat.zero_le _, Nat.zero_le _⟩) (fun v71 hv70 => ?_)
            have hv70 : v71 = .int (nI (z.natAbs / 2 ^ (6 + 7 * j) % 2 ^ 7)) := by rw [← hdv]; exact hv70
            subst hv70
            refine lv_iload_n hx hb d_M_putNumber_62 rfl (lv_at hl 0 rfl) ?_
            refine lv_bipush (v := 7) hx hb d_M_putNumber_63 (by decide) ?_
            refine lv_iadd hx hb d_M_putNumber_65 ?_
            rw [show (((nI (6 + 7 * j)) + 7) : Int32) = nI ((6 + 7 * j) + 7) from nI_add (6 + 7 * j) 7]
            refine lv_iload_n hx hb d_M_putNumber_66 rfl (lv_at hl 1 rfl) ?_
            refine lv_icmp_ge (tgt := 76) hx hb d_M_putNumber_67 (by decide) (fun c72 => ?_) (fun c72 => ?_)
            · have nc72 : (nb z.natAbs) ≤ ((6 + 7 * j) + 7) := (nI_leI (a := (nb z.natAbs)) (b := ((6 + 7 * j) + 7)) (by omega) (by omega)).mp c72
              refine lv_iconst (v := 0) hx hb d_M_putNumber_76 (by decide) ?_
              refine lv_iadd hx hb d_M_putNumber_77 ?_
              rw [show (((nI (z.natAbs / 2 ^ (6 + 7 * j) % 2 ^ 7)) + 0) : Int32) = nI ((z.natAbs / 2 ^ (6 + 7 * j) % 2 ^ 7) + 0) from nI_add (z.natAbs / 2 ^ (6 + 7 * j) % 2 ^ 7) 0]
              refine z_callQ (va_runV (C := "ValueTreesModel") (As := [.int (nI ((z.natAbs / 2 ^ (6 + 7 * j) % 2 ^ 7) + 0))]) (rest := []) ⟨hx, hb, hml, hown, hts⟩ (c_M_lay l D dT _ mm wd lf rt tc ty F sz Wk (bs ++ (0 :: (nser z).take (1 + j))) dg dc sh hM hW ((z.natAbs / 2 ^ (6 + 7 * j) % 2 ^ 7) + 0) (by (try simp only [List.length_append, List.length_cons, List.length_nil, size4_len]); omega)) ⟨callB_of 1 hts (gI gd_up gd_c q635) rfl rfl rfl (ht _ q10) (ht _ q632) hd_M_lay ⟨Nat.le_of_ble_eq_true rfl, Nat.le_of_ble_eq_true rfl⟩, ht _ q634, ht _ qs22⟩ (z_preV hK (va_recv hK.1 hM.1 (ci := 10) (q0 := 0) rfl rfl)) rfl rfl hl.1 rfl (lv_room (Nat.le_of_ble_eq_true rfl)) d_M_putNumber_78 ⟨Nat.le_refl _, Nat.le_refl _⟩) hS (fun _ h9 => h9) (fun v74 H locs hv73 hz75 hf76 hS => ?_)
              obtain ⟨rfl, Wk, hW, hWk77, hM⟩ := hv73
              refine W.eq (g2 := F0 m 81 ls []) rfl ?_
              refine lv_iinc (v := (nI (6 + 7 * (j + 1)))) (lv' := [(3, .int (nI (6 + 7 * (j + 1)))), (2, .int (nI (nb z.natAbs))), (0, .ref (mm 0)), (1, .int 0)]) hx hb d_M_putNumber_81 hl (k := 0) rfl (nI_add (6 + 7 * j) 7) (by decide) rfl (fun ls hl => ?_)
              refine lv_goto (tgt := 49) hx hb d_M_putNumber_84 (by decide) ?_
              have e9 : bs ++ (0 :: (nser z).take (1 + j)) ++ [((z.natAbs / 2 ^ (6 + 7 * j) % 2 ^ 7) + 0) % 256] = bs ++ (0 :: (nser z).take (1 + (j + 1))) := by
                rw [← take_n (show j < nb z.natAbs / 7 by omega), List.append_assoc]
                congr 1
                show 0 :: ((nser z).take (1 + j) ++ [_]) = 0 :: ((nser z).take (1 + j) ++ [_])
                congr 3
                unfold nbyte
                first | rw [if_pos (show 13 + 7 * j < nb z.natAbs by omega)] | rw [if_neg (show ¬ 13 + 7 * j < nb z.natAbs by omega)]
                omega
              rw [e9] at hW hM
              exact ih49 (j + 1) (by omega) (by omega) _ _ Wk hW hM hS ls (lv_sub hl [0, 1, 2, 3] rfl)
            · have nc72 : ¬ (nb z.natAbs) ≤ ((6 + 7 * j) + 7) := fun h9 => c72 ((nI_leI (a := (nb z.natAbs)) (b := ((6 + 7 * j) + 7)) (by omega) (by omega)).mpr h9)
              refine lv_sipush (v := 128) hx hb d_M_putNumber_70 (by decide) ?_
              refine lv_goto (tgt := 77) hx hb d_M_putNumber_73 (by decide) ?_
              refine lv_iadd hx hb d_M_putNumber_77 ?_
              rw [show (((nI (z.natAbs / 2 ^ (6 + 7 * j) % 2 ^ 7)) + 128) : Int32) = nI ((z.natAbs / 2 ^ (6 + 7 * j) % 2 ^ 7) + 128) from nI_add (z.natAbs / 2 ^ (6 + 7 * j) % 2 ^ 7) 128]
              refine z_callQ (va_runV (C := "ValueTreesModel") (As := [.int (nI ((z.natAbs / 2 ^ (6 + 7 * j) % 2 ^ 7) + 128))]) (rest := []) ⟨hx, hb, hml, hown, hts⟩ (c_M_lay l D dT _ mm wd lf rt tc ty F sz Wk (bs ++ (0 :: (nser z).take (1 + j))) dg dc sh hM hW ((z.natAbs / 2 ^ (6 + 7 * j) % 2 ^ 7) + 128) (by (try simp only [List.length_append, List.length_cons, List.length_nil, size4_len]); omega)) ⟨callB_of 1 hts (gI gd_up gd_c q635) rfl rfl rfl (ht _ q10) (ht _ q632) hd_M_lay ⟨Nat.le_of_ble_eq_true rfl, Nat.le_of_ble_eq_true rfl⟩, ht _ q634, ht _ qs22⟩ (z_preV hK (va_recv hK.1 hM.1 (ci := 10) (q0 := 0) rfl rfl)) rfl rfl hl.1 rfl (lv_room (Nat.le_of_ble_eq_true rfl)) d_M_putNumber_78 ⟨Nat.le_refl _, Nat.le_refl _⟩) hS (fun _ h9 => h9) (fun v79 H locs hv78 hz80 hf81 hS => ?_)
              obtain ⟨rfl, Wk, hW, hWk82, hM⟩ := hv78
              refine W.eq (g2 := F0 m 81 ls []) rfl ?_
              refine lv_iinc (v := (nI (6 + 7 * (j + 1)))) (lv' := [(3, .int (nI (6 + 7 * (j + 1)))), (2, .int (nI (nb z.natAbs))), (0, .ref (mm 0)), (1, .int 0)]) hx hb d_M_putNumber_81 hl (k := 0) rfl (nI_add (6 + 7 * j) 7) (by decide) rfl (fun ls hl => ?_)
              refine lv_goto (tgt := 49) hx hb d_M_putNumber_84 (by decide) ?_
              have e9 : bs ++ (0 :: (nser z).take (1 + j)) ++ [((z.natAbs / 2 ^ (6 + 7 * j) % 2 ^ 7) + 128) % 256] = bs ++ (0 :: (nser z).take (1 + (j + 1))) := by
                rw [← take_n (show j < nb z.natAbs / 7 by omega), List.append_assoc]
                congr 1
                show 0 :: ((nser z).take (1 + j) ++ [_]) = 0 :: ((nser z).take (1 + j) ++ [_])
                congr 3
                unfold nbyte
                first | rw [if_pos (show 13 + 7 * j < nb z.natAbs by omega)] | rw [if_neg (show ¬ 13 + 7 * j < nb z.natAbs by omega)]
                omega
              rw [e9] at hW hM
              exact ih49 (j + 1) (by omega) (by omega) _ _ Wk hW hM hS ls (lv_sub hl [0, 1, 2, 3] rfl)
      exact loop68 (nb z.natAbs / 7 + 1) 0 (by omega) (by omega) _ _ Wk hW hM hS ls (lv_sub hl [0, 1, 2, 3] rfl)
    · have nc62 : ¬ (nb z.natAbs) ≤ 6 := fun h9 => c62 ((nI_leI (a := (nb z.natAbs)) (b := 6) (by omega) (by omega)).mpr h9)
      refine lv_sipush (v := 128) hx hb d_M_putNumber_35 (by decide) ?_
      refine lv_goto (tgt := 42) hx hb d_M_putNumber_38 (by decide) ?_
      refine lv_iadd hx hb d_M_putNumber_42 ?_
      rw [show (((nI ((z.natAbs / 2 ^ 0 % 2 ^ 6) + 0)) + 128) : Int32) = nI (((z.natAbs / 2 ^ 0 % 2 ^ 6) + 0) + 128) from nI_add ((z.natAbs / 2 ^ 0 % 2 ^ 6) + 0) 128]
      refine z_callQ (va_runV (C := "ValueTreesModel") (As := [.int (nI (((z.natAbs / 2 ^ 0 % 2 ^ 6) + 0) + 128))]) (rest := []) ⟨hx, hb, hml, hown, hts⟩ (c_M_lay l D dT _ mm wd lf rt tc ty F sz Wk (bs ++ [0 % 256]) dg dc sh hM hW (((z.natAbs / 2 ^ 0 % 2 ^ 6) + 0) + 128) (by (try simp only [List.length_append, List.length_cons, List.length_nil, size4_len]); omega)) ⟨callB_of 1 hts (gI gd_up gd_c q635) rfl rfl rfl (ht _ q10) (ht _ q632) hd_M_lay ⟨Nat.le_of_ble_eq_true rfl, Nat.le_of_ble_eq_true rfl⟩, ht _ q634, ht _ qs22⟩ (z_preV hK (va_recv hK.1 hM.1 (ci := 10) (q0 := 0) rfl rfl)) rfl rfl hl.1 rfl (lv_room (Nat.le_of_ble_eq_true rfl)) d_M_putNumber_43 ⟨Nat.le_refl _, Nat.le_refl _⟩) hS (fun _ h9 => h9) (fun v84 H locs hv83 hz85 hf86 hS => ?_)
      obtain ⟨rfl, Wk, hW, hWk87, hM⟩ := hv83
      refine W.eq (g2 := F0 m 46 ls []) rfl ?_
      refine lv_bipush (v := 6) hx hb d_M_putNumber_46 (by decide) ?_
      refine lv_istore_n (lv' := [(3, .int 6), (2, .int (nI (nb z.natAbs))), (0, .ref (mm 0)), (1, .int 0)]) hx hb d_M_putNumber_48 rfl hl (by decide) rfl (fun ls hl => ?_)
      have e9 : bs ++ [0 % 256] ++ [(((z.natAbs / 2 ^ 0 % 2 ^ 6) + 0) + 128) % 256] = bs ++ (0 :: (nser z).take (1 + 0)) := by
        rw [take_1, if_neg hz]
        first | rw [if_pos (show 6 < nb z.natAbs by omega)] | rw [if_neg (show ¬ 6 < nb z.natAbs by omega)]
        rw [List.append_assoc]
        congr 1
        show [0, _] = [0, _]
        congr 2
        omega
      rw [e9] at hW hM
      have loop88 : ∀ (n499 : Nat) (j : Nat), (j ≤ nb z.natAbs / 7) → nb z.natAbs / 7 - j < n499 → ∀ (H : Heap) (locs : List Loc) (Wk : Nat → Nat), wAt Wk (bs ++ (0 :: (nser z).take (1 + j))) → mAt D dT mm wd lf rt tc ty F sz Wk ((bs ++ (0 :: (nser z).take (1 + j))).length) dg dc sh H → va_S (mA mm) s.heap H locs → ∀ (ls : Array Slot), lv_has ls 4 [(3, .int (nI (6 + 7 * j))), (2, .int (nI (nb z.natAbs))), (0, .ref (mm 0)), (1, .int 0)] → W p l e (headSpec w_M_putNumber ({ frames := 2, cells := 0, slots := 0, locals := 46 })).room s m [.ref (mm 0), .int (if z < 0 then 1 else 0)].toArray below meth c H locs 0 0 (MQ below (z_Q (mA mm) (fun v H1 => v = none ∧ ∃ Wk', wAt Wk' (bs ++ (0 :: nser z)) ∧ mAt D dT mm wd lf rt tc ty F sz Wk' ((bs ++ (0 :: nser z)).length) dg dc sh H1)) [.ref (mm 0), .int (if z < 0 then 1 else 0)].toArray s 0 0 (mA mm)) (F0 m 49 ls []) := by
        intro n499
        induction n499 with
        | zero =>
          intro j hj h499
          exact absurd h499 (Nat.not_lt_zero _)
        | succ n499 ih49 =>
          intro j hj h499 H locs Wk hW hM hS ls hl
          have htk : ((nser z).take (1 + j)).length = 1 + j := by rw [List.length_take]; omega
          refine lv_iload_n hx hb d_M_putNumber_49 rfl (lv_at hl 0 rfl) ?_
          refine lv_iload_n hx hb d_M_putNumber_50 rfl (lv_at hl 1 rfl) ?_
          refine lv_icmp_ge (tgt := 87) hx hb d_M_putNumber_51 (by decide) (fun c89 => ?_) (fun c89 => ?_)
          · have nc89 : (nb z.natAbs) ≤ (6 + 7 * j) := (nI_leI (a := (nb z.natAbs)) (b := (6 + 7 * j)) (by omega) (by omega)).mp c89
            refine z_vretQ hx hb hr hlocks d_M_putNumber_87 hS (Nat.le_refl _) (Nat.le_refl _) ?_
            have e9 : j = nb z.natAbs / 7 := by omega
            have e8 : (nser z).take (1 + j) = nser z := List.take_of_length_le (by omega)
            rw [e8] at hW hM
            exact ⟨rfl, Wk, hW, hM⟩
          · have nc89 : ¬ (nb z.natAbs) ≤ (6 + 7 * j) := fun h9 => c89 ((nI_leI (a := (nb z.natAbs)) (b := (6 + 7 * j)) (by omega) (by omega)).mpr h9)
            refine lv_aload_n hx hb d_M_putNumber_54 rfl (lv_at hl 2 rfl) ?_
            refine lv_aload_n hx hb d_M_putNumber_55 rfl (lv_at hl 2 rfl) ?_
            refine lv_iload_n hx hb d_M_putNumber_56 rfl (lv_at hl 0 rfl) ?_
            refine lv_bipush (v := 7) hx hb d_M_putNumber_57 (by decide) ?_
            refine z_callR (va_runV (C := "ValueTreesModel") (As := [.int (nI (6 + 7 * j)), .int 7]) (rest := [.ref (mm 0)]) ⟨hx, hb, hml, hown, hts⟩ (c_M_bitsFrom l D dT _ mm wd lf rt tc ty F sz Wk ((bs ++ (0 :: (nser z).take (1 + j))).length) dg dc sh hM hd hdc (6 + 7 * j) 7 (by omega) (by omega)) ⟨callB_of 2 hts (gI gd_up gd_c q639) rfl rfl rfl (ht _ q10) (ht _ q636) hd_M_bitsFrom ⟨Nat.le_of_ble_eq_true rfl, Nat.le_of_ble_eq_true rfl⟩, ht _ q638, ht _ qs23⟩ (z_preV hK (va_recv hK.1 hM.1 (ci := 10) (q0 := 0) rfl rfl)) rfl rfl hl.1 rfl (lv_room (Nat.le_of_ble_eq_true rfl)) d_M_putNumber_59 ⟨Nat.zero_le _, Nat.zero_le _⟩) (fun v91 hv90 => ?_)
            have hv90 : v91 = .int (nI (z.natAbs / 2 ^ (6 + 7 * j) % 2 ^ 7)) := by rw [← hdv]; exact hv90
            subst hv90
            refine lv_iload_n hx hb d_M_putNumber_62 rfl (lv_at hl 0 rfl) ?_
            refine lv_bipush (v := 7) hx hb d_M_putNumber_63 (by decide) ?_
            refine lv_iadd hx hb d_M_putNumber_65 ?_
            rw [show (((nI (6 + 7 * j)) + 7) : Int32) = nI ((6 + 7 * j) + 7) from nI_add (6 + 7 * j) 7]
            refine lv_iload_n hx hb d_M_putNumber_66 rfl (lv_at hl 1 rfl) ?_
            refine lv_icmp_ge (tgt := 76) hx hb d_M_putNumber_67 (by decide) (fun c92 => ?_) (fun c92 => ?_)
            · have nc92 : (nb z.natAbs) ≤ ((6 + 7 * j) + 7) := (nI_leI (a := (nb z.natAbs)) (b := ((6 + 7 * j) + 7)) (by omega) (by omega)).mp c92
              refine lv_iconst (v := 0) hx hb d_M_putNumber_76 (by decide) ?_
              refine lv_iadd hx hb d_M_putNumber_77 ?_
              rw [show (((nI (z.natAbs / 2 ^ (6 + 7 * j) % 2 ^ 7)) + 0) : Int32) = nI ((z.natAbs / 2 ^ (6 + 7 * j) % 2 ^ 7) + 0) from nI_add (z.natAbs / 2 ^ (6 + 7 * j) % 2 ^ 7) 0]
              refine z_callQ (va_runV (C := "ValueTreesModel") (As := [.int (nI ((z.natAbs / 2 ^ (6 + 7 * j) % 2 ^ 7) + 0))]) (rest := []) ⟨hx, hb, hml, hown, hts⟩ (c_M_lay l D dT _ mm wd lf rt tc ty F sz Wk (bs ++ (0 :: (nser z).take (1 + j))) dg dc sh hM hW ((z.natAbs / 2 ^ (6 + 7 * j) % 2 ^ 7) + 0) (by (try simp only [List.length_append, List.length_cons, List.length_nil, size4_len]); omega)) ⟨callB_of 1 hts (gI gd_up gd_c q635) rfl rfl rfl (ht _ q10) (ht _ q632) hd_M_lay ⟨Nat.le_of_ble_eq_true rfl, Nat.le_of_ble_eq_true rfl⟩, ht _ q634, ht _ qs22⟩ (z_preV hK (va_recv hK.1 hM.1 (ci := 10) (q0 := 0) rfl rfl)) rfl rfl hl.1 rfl (lv_room (Nat.le_of_ble_eq_true rfl)) d_M_putNumber_78 ⟨Nat.le_refl _, Nat.le_refl _⟩) hS (fun _ h9 => h9) (fun v94 H locs hv93 hz95 hf96 hS => ?_)
              obtain ⟨rfl, Wk, hW, hWk97, hM⟩ := hv93
              refine W.eq (g2 := F0 m 81 ls []) rfl ?_
              refine lv_iinc (v := (nI (6 + 7 * (j + 1)))) (lv' := [(3, .int (nI (6 + 7 * (j + 1)))), (2, .int (nI (nb z.natAbs))), (0, .ref (mm 0)), (1, .int 0)]) hx hb d_M_putNumber_81 hl (k := 0) rfl (nI_add (6 + 7 * j) 7) (by decide) rfl (fun ls hl => ?_)
              refine lv_goto (tgt := 49) hx hb d_M_putNumber_84 (by decide) ?_
              have e9 : bs ++ (0 :: (nser z).take (1 + j)) ++ [((z.natAbs / 2 ^ (6 + 7 * j) % 2 ^ 7) + 0) % 256] = bs ++ (0 :: (nser z).take (1 + (j + 1))) := by
                rw [← take_n (show j < nb z.natAbs / 7 by omega), List.append_assoc]
                congr 1
                show 0 :: ((nser z).take (1 + j) ++ [_]) = 0 :: ((nser z).take (1 + j) ++ [_])
                congr 3
                unfold nbyte
                first | rw [if_pos (show 13 + 7 * j < nb z.natAbs by omega)] | rw [if_neg (show ¬ 13 + 7 * j < nb z.natAbs by omega)]
                omega
              rw [e9] at hW hM
              exact ih49 (j + 1) (by omega) (by omega) _ _ Wk hW hM hS ls (lv_sub hl [0, 1, 2, 3] rfl)
            · have nc92 : ¬ (nb z.natAbs) ≤ ((6 + 7 * j) + 7) := fun h9 => c92 ((nI_leI (a := (nb z.natAbs)) (b := ((6 + 7 * j) + 7)) (by omega) (by omega)).mpr h9)
              refine lv_sipush (v := 128) hx hb d_M_putNumber_70 (by decide) ?_
              refine lv_goto (tgt := 77) hx hb d_M_putNumber_73 (by decide) ?_
              refine lv_iadd hx hb d_M_putNumber_77 ?_
              rw [show (((nI (z.natAbs / 2 ^ (6 + 7 * j) % 2 ^ 7)) + 128) : Int32) = nI ((z.natAbs / 2 ^ (6 + 7 * j) % 2 ^ 7) + 128) from nI_add (z.natAbs / 2 ^ (6 + 7 * j) % 2 ^ 7) 128]
              refine z_callQ (va_runV (C := "ValueTreesModel") (As := [.int (nI ((z.natAbs / 2 ^ (6 + 7 * j) % 2 ^ 7) + 128))]) (rest := []) ⟨hx, hb, hml, hown, hts⟩ (c_M_lay l D dT _ mm wd lf rt tc ty F sz Wk (bs ++ (0 :: (nser z).take (1 + j))) dg dc sh hM hW ((z.natAbs / 2 ^ (6 + 7 * j) % 2 ^ 7) + 128) (by (try simp only [List.length_append, List.length_cons, List.length_nil, size4_len]); omega)) ⟨callB_of 1 hts (gI gd_up gd_c q635) rfl rfl rfl (ht _ q10) (ht _ q632) hd_M_lay ⟨Nat.le_of_ble_eq_true rfl, Nat.le_of_ble_eq_true rfl⟩, ht _ q634, ht _ qs22⟩ (z_preV hK (va_recv hK.1 hM.1 (ci := 10) (q0 := 0) rfl rfl)) rfl rfl hl.1 rfl (lv_room (Nat.le_of_ble_eq_true rfl)) d_M_putNumber_78 ⟨Nat.le_refl _, Nat.le_refl _⟩) hS (fun _ h9 => h9) (fun v99 H locs hv98 hz100 hf101 hS => ?_)
              obtain ⟨rfl, Wk, hW, hWk102, hM⟩ := hv98
              refine W.eq (g2 := F0 m 81 ls []) rfl ?_
              refine lv_iinc (v := (nI (6 + 7 * (j + 1)))) (lv' := [(3, .int (nI (6 + 7 * (j + 1)))), (2, .int (nI (nb z.natAbs))), (0, .ref (mm 0)), (1, .int 0)]) hx hb d_M_putNumber_81 hl (k := 0) rfl (nI_add (6 + 7 * j) 7) (by decide) rfl (fun ls hl => ?_)
              refine lv_goto (tgt := 49) hx hb d_M_putNumber_84 (by decide) ?_
              have e9 : bs ++ (0 :: (nser z).take (1 + j)) ++ [((z.natAbs / 2 ^ (6 + 7 * j) % 2 ^ 7) + 128) % 256] = bs ++ (0 :: (nser z).take (1 + (j + 1))) := by
                rw [← take_n (show j < nb z.natAbs / 7 by omega), List.append_assoc]
                congr 1
                show 0 :: ((nser z).take (1 + j) ++ [_]) = 0 :: ((nser z).take (1 + j) ++ [_])
                congr 3
                unfold nbyte
                first | rw [if_pos (show 13 + 7 * j < nb z.natAbs by omega)] | rw [if_neg (show ¬ 13 + 7 * j < nb z.natAbs by omega)]
                omega
              rw [e9] at hW hM
              exact ih49 (j + 1) (by omega) (by omega) _ _ Wk hW hM hS ls (lv_sub hl [0, 1, 2, 3] rfl)
      exact loop88 (nb z.natAbs / 7 + 1) 0 (by omega) (by omega) _ _ Wk hW hM hS ls (lv_sub hl [0, 1, 2, 3] rfl)
