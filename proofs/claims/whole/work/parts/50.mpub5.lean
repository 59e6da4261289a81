abbrev b_M_empty : ByteArray := prog_12_method_36_code
abbrev y_M_empty : MethodName := ⟨"ValueTreesModel", "empty", "(II)I"⟩
abbrev w_M_empty : List Cond := .code y_M_empty b_M_empty 4 (Option.some .int) :: gt
theorem hd_M_empty : (y_M_empty).cls ≠ "java/lang/invoke/MethodHandle" ∧ (y_M_empty).cls ≠ "java/lang/invoke/VarHandle" ∧ (parseMethodDescriptor (y_M_empty).desc).map (fun d => d.parameters.length) = some 2 := by decide +kernel
theorem d_M_empty_0 : decode b_M_empty 0 = .ok (.iload_n 1, 1) := by decide +kernel
theorem d_M_empty_1 : decode b_M_empty 1 = .ok (.invokestatic 66, 3) := by decide +kernel
theorem d_M_empty_4 : decode b_M_empty 4 = .ok (.ifCond .eq 11, 3) := by decide +kernel
theorem d_M_empty_7 : decode b_M_empty 7 = .ok (.aload_n 0, 1) := by decide +kernel
theorem d_M_empty_8 : decode b_M_empty 8 = .ok (.iload_n 2, 1) := by decide +kernel
theorem d_M_empty_9 : decode b_M_empty 9 = .ok (.invokevirtual 60, 3) := by decide +kernel
theorem d_M_empty_12 : decode b_M_empty 12 = .ok (.ifCond .ne 5, 3) := by decide +kernel
theorem d_M_empty_15 : decode b_M_empty 15 = .ok (.iconst (-1), 1) := by decide +kernel
theorem d_M_empty_16 : decode b_M_empty 16 = .ok (.ireturn, 1) := by decide +kernel
theorem d_M_empty_17 : decode b_M_empty 17 = .ok (.aload_n 0, 1) := by decide +kernel
theorem d_M_empty_18 : decode b_M_empty 18 = .ok (.getfield 7, 3) := by decide +kernel
theorem d_M_empty_21 : decode b_M_empty 21 = .ok (.iload_n 2, 1) := by decide +kernel
theorem d_M_empty_22 : decode b_M_empty 22 = .ok (.iaload, 1) := by decide +kernel
theorem d_M_empty_23 : decode b_M_empty 23 = .ok (.istore_n 3, 1) := by decide +kernel
theorem d_M_empty_24 : decode b_M_empty 24 = .ok (.aload_n 0, 1) := by decide +kernel
theorem d_M_empty_25 : decode b_M_empty 25 = .ok (.iconst 0, 1) := by decide +kernel
theorem d_M_empty_26 : decode b_M_empty 26 = .ok (.putfield 98, 3) := by decide +kernel
theorem d_M_empty_29 : decode b_M_empty 29 = .ok (.iload_n 3, 1) := by decide +kernel
theorem d_M_empty_30 : decode b_M_empty 30 = .ok (.bipush 10, 2) := by decide +kernel
theorem d_M_empty_32 : decode b_M_empty 32 = .ok (.if_icmp .ne 17, 3) := by decide +kernel
theorem d_M_empty_35 : decode b_M_empty 35 = .ok (.aload_n 0, 1) := by decide +kernel
theorem d_M_empty_36 : decode b_M_empty 36 = .ok (.iconst 3, 1) := by decide +kernel
theorem d_M_empty_37 : decode b_M_empty 37 = .ok (.invokevirtual 101, 3) := by decide +kernel
theorem d_M_empty_40 : decode b_M_empty 40 = .ok (.aload_n 0, 1) := by decide +kernel
theorem d_M_empty_41 : decode b_M_empty 41 = .ok (.bipush 6, 2) := by decide +kernel
theorem d_M_empty_43 : decode b_M_empty 43 = .ok (.invokevirtual 101, 3) := by decide +kernel
theorem d_M_empty_46 : decode b_M_empty 46 = .ok (.goto 31, 3) := by decide +kernel
theorem d_M_empty_49 : decode b_M_empty 49 = .ok (.iload_n 3, 1) := by decide +kernel
theorem d_M_empty_50 : decode b_M_empty 50 = .ok (.bipush 11, 2) := by decide +kernel
theorem d_M_empty_52 : decode b_M_empty 52 = .ok (.if_icmp .eq 10, 3) := by decide +kernel
theorem d_M_empty_55 : decode b_M_empty 55 = .ok (.iload_n 3, 1) := by decide +kernel
theorem d_M_empty_56 : decode b_M_empty 56 = .ok (.invokestatic 136, 3) := by decide +kernel
theorem d_M_empty_59 : decode b_M_empty 59 = .ok (.ifCond .eq 16, 3) := by decide +kernel
theorem d_M_empty_62 : decode b_M_empty 62 = .ok (.aload_n 0, 1) := by decide +kernel
theorem d_M_empty_63 : decode b_M_empty 63 = .ok (.iconst 2, 1) := by decide +kernel
theorem d_M_empty_64 : decode b_M_empty 64 = .ok (.invokevirtual 101, 3) := by decide +kernel
theorem d_M_empty_67 : decode b_M_empty 67 = .ok (.aload_n 0, 1) := by decide +kernel
theorem d_M_empty_68 : decode b_M_empty 68 = .ok (.iconst 0, 1) := by decide +kernel
theorem d_M_empty_69 : decode b_M_empty 69 = .ok (.invokevirtual 131, 3) := by decide +kernel
theorem d_M_empty_72 : decode b_M_empty 72 = .ok (.goto 5, 3) := by decide +kernel
theorem d_M_empty_75 : decode b_M_empty 75 = .ok (.iconst (-1), 1) := by decide +kernel
theorem d_M_empty_76 : decode b_M_empty 76 = .ok (.ireturn, 1) := by decide +kernel
theorem d_M_empty_77 : decode b_M_empty 77 = .ok (.aload_n 0, 1) := by decide +kernel
theorem d_M_empty_78 : decode b_M_empty 78 = .ok (.iload_n 1, 1) := by decide +kernel
theorem d_M_empty_79 : decode b_M_empty 79 = .ok (.iload_n 2, 1) := by decide +kernel
theorem d_M_empty_80 : decode b_M_empty 80 = .ok (.invokevirtual 121, 3) := by decide +kernel
theorem d_M_empty_83 : decode b_M_empty 83 = .ok (.ireturn, 1) := by decide +kernel
set_option maxHeartbeats 4000000 in
set_option maxRecDepth 100000 in
theorem p_M_empty (l : Launch) (D : va_G) (dT : Nat → ClassId) (H : Heap) (mm : Nat → Nat) (tb : Nat → TR) (tc : Nat) (RV : Nat → Option VT) (hI : mI D dT mm tb tc RV H) (r t : Int32) : Met l y_M_empty w_M_empty ({ frames := 3, cells := 0, slots := 0, locals := 62 }) (z_P D dT [.ref (mm 0), .int r, .int t] H) (z_Q (mA mm) (fun v H1 => v = some (.int (kp RV r (o_empty tb tc t)).1) ∧ mI D dT mm tb tc (kp RV r (o_empty tb tc t)).2 H1)) 0 0 (mA mm) := by
  obtain ⟨wd, lf, rt, ty, F, sz, Wk, wz, dg, dc, sh, hM, hO, hT, hR, hWk⟩ := hI
  have hF := hR.1
  have htc := hO.1
  have htc10 := hO.2.1
  refine Met.ofW (cc := b_M_empty) (maxL := 4) (ret := (Option.some .int)) (by decide) rfl ?_
  intro p e s m args below meth c s₁ B hml hv
  obtain ⟨rfl, rfl, hK⟩ := hv
  have hx := B.exec
  have hb := B.bytes
  have hr := B.returns
  have hts := atoms_spec (ws := w_M_empty) B.pre
  have ht : ∀ w9 ∈ gt, w9.before [.ref (mm 0), .int r, .int t].toArray s = true := fun w9 h => hts w9 (List.mem_cons_of_mem _ h)
  have hown : s.vm.findClass "ValueTreesModel" = some m.cls := findClass_of_methodNamed B.named
  have hlocks := B.notSynchronized
  have hS : va_S (mA mm) s.heap s.heap [] := va_S.rf
  have hl := lv_entry ([.ref (mm 0), .int r, .int t]) (n := 4) (Nat.le_of_ble_eq_true rfl)
  rw [lg_entry_eq]
  generalize (lg_sl ([.ref (mm 0), .int r, .int t]) ++ List.replicate (4 - (lg_sl ([.ref (mm 0), .int r, .int t])).length) Slot.unset).toArray = ls at hl ⊢
  have hl : lv_has ls 4 [(0, .ref (mm 0)), (1, .int r), (2, .int t)] := hl
  refine lv_iload_n hx hb d_M_empty_0 rfl (lv_at hl 1 rfl) ?_
  refine z_callR (va_runS (As := [.int r]) (rest := []) ⟨hx, hb, hml, hown, hts⟩ (c_M_isRegister l D dT _ r) ⟨callB_of 1 hts (gI gd_up gd_c q619) rfl rfl rfl (ht _ q10) (ht _ q617) hd_M_isRegister ⟨Nat.le_of_ble_eq_true rfl, Nat.le_of_ble_eq_true rfl⟩, ht _ q618⟩ (z_preS hK) rfl rfl hl.1 rfl (lv_room (Nat.le_of_ble_eq_true rfl)) d_M_empty_1 ⟨Nat.zero_le _, Nat.zero_le _⟩) (fun v2 hv1 => ?_)
  have hv1 : v2 = .int (if inR r then 1 else 0) := hv1
  rcases Classical.em (inR r) with hq3 | hq3
  · rw [if_pos hq3] at hv1
    subst hv1
    refine lv_if_eq (tgt := 15) hx hb d_M_empty_4 (by decide) (fun c4 => absurd c4 (by decide)) (fun _ => ?_)
    obtain ⟨j, hj, rfl⟩ := inR_of hq3
    refine lv_aload_n hx hb d_M_empty_7 rfl (lv_at hl 0 rfl) ?_
    refine lv_iload_n hx hb d_M_empty_8 rfl (lv_at hl 2 rfl) ?_
    refine z_callR (va_runV (C := "ValueTreesModel") (As := [.int t]) (rest := []) ⟨hx, hb, hml, hown, hts⟩ (c_M_isType l D dT _ mm wd lf rt tc ty F sz Wk wz dg dc sh hM t) ⟨callB_of 1 hts (gI gd_up gd_c q584) rfl rfl rfl (ht _ q10) (ht _ q581) hd_M_isType ⟨Nat.le_of_ble_eq_true rfl, Nat.le_of_ble_eq_true rfl⟩, ht _ q583, ht _ qs13⟩ (z_preV hK (va_recv hK.1 hM.1 (ci := 10) (q0 := 0) rfl rfl)) rfl rfl hl.1 rfl (lv_room (Nat.le_of_ble_eq_true rfl)) d_M_empty_9 ⟨Nat.zero_le _, Nat.zero_le _⟩) (fun v6 hv5 => ?_)
    have hv5 : v6 = .int (if 0 ≤ t ∧ t < nI tc then 1 else 0) := hv5
    rcases Classical.em (0 ≤ t ∧ t < nI tc) with hq7 | hq7
    · rw [if_pos hq7] at hv5
      subst hv5
      refine lv_if_ne (tgt := 17) hx hb d_M_empty_12 (by decide) (fun _ => ?_) (fun c8 => absurd c8 (by decide))
      obtain ⟨kt, hkt, rfl⟩ := tN_of hq7 htc
      have ekt1 := (hT kt hkt).1
      have ekt2 := (hT kt hkt).2.1
      have ekt3 := (hT kt hkt).2.2
      have rkt1 := (hO.2.2 kt hkt).1
      have rkt2 := (hO.2.2 kt hkt).2.1
      refine lv_aload_n hx hb d_M_empty_17 rfl (lv_at hl 0 rfl) ?_
      refine va_get (D := D) (ci := 10) (v := .ref (mm 1)) (C := "ValueTreesModel") (T := T_M) (N := 12) hx hb ht in_M hown hK.1 hM.1 0 rfl rfl 0 (by decide) (ht _ q539) (fun _ h9 => h9) rfl d_M_empty_18 ?_
      refine lv_iload_n hx hb d_M_empty_21 rfl (lv_at hl 2 rfl) ?_
      refine z_iald hx hb hK (hM.1 1 _ rfl) kt rfl (by omega) (by decide) d_M_empty_22 ?_
      rw [ekt1]
      refine lv_istore_n (lv' := [(3, .int (nI (tW (tb kt)))), (0, .ref (mm 0)), (1, .int (nI j)), (2, .int (nI kt))]) hx hb d_M_empty_23 rfl hl (by decide) rfl (fun ls hl => ?_)
      refine lv_aload_n hx hb d_M_empty_24 rfl (lv_at hl 1 rfl) ?_
      refine lv_iconst (v := 0) hx hb d_M_empty_25 (by decide) ?_
      refine m_put_wz hx hb ht hown hK hM hS (ht _ q547) 0 rfl d_M_empty_26 (fun H locs hM hS => ?_)
      have hM : mAt D dT mm wd lf rt tc ty F sz Wk 0 dg dc sh H := hM
      have hW : wAt Wk ([] : List Nat) := wAt_nil hWk
      have hM : mAt D dT mm wd lf rt tc ty F sz Wk (([] : List Nat).length) dg dc sh H := hM
      refine lv_iload_n hx hb d_M_empty_29 rfl (lv_at hl 0 rfl) ?_
      refine lv_bipush (v := 10) hx hb d_M_empty_30 (by decide) ?_
      refine lv_icmp_ne (tgt := 49) hx hb d_M_empty_32 (by decide) (fun c9 => ?_) (fun c9 => ?_)
      · have nc9 : ¬ (tW (tb kt)) = 10 := fun h9 => c9 ((nI_eq (a := (tW (tb kt))) (b := 10) (by omega) (by omega)).mpr h9)
        refine lv_iload_n hx hb d_M_empty_49 rfl (lv_at hl 0 rfl) ?_
        refine lv_bipush (v := 11) hx hb d_M_empty_50 (by decide) ?_
        refine lv_icmp_eq (tgt := 62) hx hb d_M_empty_52 (by decide) (fun c10 => ?_) (fun c10 => ?_)
        · have nc10 : (tW (tb kt)) = 11 := (nI_eq (a := (tW (tb kt))) (b := 11) (by omega) (by omega)).mp c10
          refine lv_aload_n hx hb d_M_empty_62 rfl (lv_at hl 1 rfl) ?_
          refine lv_iconst (v := 2) hx hb d_M_empty_63 (by decide) ?_
          refine z_callQ (va_runV (C := "ValueTreesModel") (As := [.int 2]) (rest := []) ⟨hx, hb, hml, hown, hts⟩ (c_M_lay l D dT _ mm wd lf rt tc ty F sz Wk ([] : List Nat) dg dc sh hM hW 2 (by (try simp only [List.length_append, List.length_cons, List.length_nil, size4_len]); omega)) ⟨callB_of 1 hts (gI gd_up gd_c q635) rfl rfl rfl (ht _ q10) (ht _ q632) hd_M_lay ⟨Nat.le_of_ble_eq_true rfl, Nat.le_of_ble_eq_true rfl⟩, ht _ q634, ht _ qs22⟩ (z_preV hK (va_recv hK.1 hM.1 (ci := 10) (q0 := 0) rfl rfl)) rfl rfl hl.1 rfl (lv_room (Nat.le_of_ble_eq_true rfl)) d_M_empty_64 ⟨Nat.le_refl _, Nat.le_refl _⟩) hS (fun _ h9 => h9) (fun v12 H locs hv11 hz13 hf14 hS => ?_)
          obtain ⟨rfl, Wk, hW, hWk15, hM⟩ := hv11
          refine W.eq (g2 := F0 m 67 ls []) rfl ?_
          refine lv_aload_n hx hb d_M_empty_67 rfl (lv_at hl 1 rfl) ?_
          refine lv_iconst (v := 0) hx hb d_M_empty_68 (by decide) ?_
          refine z_callQ (va_runV (C := "ValueTreesModel") (As := [.int 0]) (rest := []) ⟨hx, hb, hml, hown, hts⟩ (c_M_putSize l D dT _ mm wd lf rt tc ty F sz Wk (([] : List Nat) ++ [2 % 256]) dg dc sh hM hW 0 (by omega) (by (try simp only [List.length_append, List.length_cons, List.length_nil, size4_len]); omega)) ⟨callB_of 1 hts (gI gd_up gd_c q687) rfl rfl rfl (ht _ q10) (ht _ q684) hd_M_putSize ⟨Nat.le_of_ble_eq_true rfl, Nat.le_of_ble_eq_true rfl⟩, ht _ q686, ht _ qs32⟩ (z_preV hK (va_recv hK.1 hM.1 (ci := 10) (q0 := 0) rfl rfl)) rfl rfl hl.1 rfl (lv_room (Nat.le_of_ble_eq_true rfl)) d_M_empty_69 ⟨Nat.le_refl _, Nat.le_refl _⟩) hS (fun _ h9 => h9) (fun v17 H locs hv16 hz18 hf19 hS => ?_)
          obtain ⟨rfl, Wk, hW, hWk20, hM⟩ := hv16
          refine W.eq (g2 := F0 m 72 ls []) rfl ?_
          refine lv_goto (tgt := 77) hx hb d_M_empty_72 (by decide) ?_
          refine lv_aload_n hx hb d_M_empty_77 rfl (lv_at hl 1 rfl) ?_
          refine lv_iload_n hx hb d_M_empty_78 rfl (lv_at hl 2 rfl) ?_
          refine lv_iload_n hx hb d_M_empty_79 rfl (lv_at hl 3 rfl) ?_
          have ebs : ([] : List Nat) ++ [2 % 256] ++ size4 0 = cs (.pow (.intCast 0) kt) := rfl
          rw [ebs] at hW hM
          refine z_callQ (va_runV (C := "ValueTreesModel") (As := [.int (nI j), .int (nI kt)]) (rest := []) ⟨hx, hb, hml, hown, hts⟩ (c_M_keep l D dT _ mm wd lf rt tc ty F sz Wk (cs (.pow (.intCast 0) kt)) dg dc sh hM hW j kt hj (by rw [← ebs]; simp only [List.length_append, List.length_cons, List.length_nil, size4_len]; omega)) ⟨callB_of 2 hts (gI gd_up gd_c q647) rfl rfl rfl (ht _ q10) (ht _ q644) hd_M_keep ⟨Nat.le_of_ble_eq_true rfl, Nat.le_of_ble_eq_true rfl⟩, ht _ q646, ht _ qs25⟩ (z_preV hK (va_recv hK.1 hM.1 (ci := 10) (q0 := 0) rfl rfl)) rfl rfl hl.1 rfl (lv_room (Nat.le_of_ble_eq_true rfl)) d_M_empty_80 ⟨Nat.le_refl _, Nat.le_refl _⟩) hS (fun _ h9 => h9) (fun v22 H locs hv21 hz23 hf24 hS => ?_)
          rcases hv21 with ⟨hk1, rfl, hM⟩ | ⟨hk1, rfl, hM⟩
          · refine W.eq (g2 := F0 m 83 ls [.int (-2)]) rfl ?_
            refine z_iretQ hx hb hr hlocks d_M_empty_83 hS (Nat.le_refl _) (Nat.le_refl _) ?_
            have eo := show o_empty tb tc (nI kt) = some (.pow (.intCast 0) kt) from (by unfold o_empty; rw [tN_nI hkt htc]; dsimp only; rw [if_neg (by omega), if_pos nc10])
            rw [eo]
            exact kO_done ⟨_, _, _, _, _, hW.1, Or.inl ⟨hk1, rfl, hM⟩⟩ hO hT hR hj hkt ⟨rfl, rfl, Or.inl ⟨rfl, nc10⟩⟩
          · refine W.eq (g2 := F0 m 83 ls [.int (nI (cs (.pow (.intCast 0) kt)).length)]) rfl ?_
            refine z_iretQ hx hb hr hlocks d_M_empty_83 hS (Nat.le_refl _) (Nat.le_refl _) ?_
            have eo := show o_empty tb tc (nI kt) = some (.pow (.intCast 0) kt) from (by unfold o_empty; rw [tN_nI hkt htc]; dsimp only; rw [if_neg (by omega), if_pos nc10])
            rw [eo]
            exact kO_done ⟨_, _, _, _, _, hW.1, Or.inr ⟨hk1, rfl, hM⟩⟩ hO hT hR hj hkt ⟨rfl, rfl, Or.inl ⟨rfl, nc10⟩⟩
        · have nc10 : ¬ (tW (tb kt)) = 11 := fun h9 => c10 ((nI_eq (a := (tW (tb kt))) (b := 11) (by omega) (by omega)).mpr h9)
          refine lv_iload_n hx hb d_M_empty_55 rfl (lv_at hl 0 rfl) ?_
          refine z_callR (va_runS (As := [.int (nI (tW (tb kt)))]) (rest := []) ⟨hx, hb, hml, hown, hts⟩ (c_M_isTree l D dT _ (nI (tW (tb kt)))) ⟨callB_of 1 hts (gI gd_up gd_c q699) rfl rfl rfl (ht _ q10) (ht _ q697) hd_M_isTree ⟨Nat.le_of_ble_eq_true rfl, Nat.le_of_ble_eq_true rfl⟩, ht _ q698⟩ (z_preS hK) rfl rfl hl.1 rfl (lv_room (Nat.le_of_ble_eq_true rfl)) d_M_empty_56 ⟨Nat.zero_le _, Nat.zero_le _⟩) (fun v26 hv25 => ?_)
          have hv25 : v26 = .int (if isTr (nI (tW (tb kt))) then 1 else 0) := hv25
          rcases Classical.em (isTr (nI (tW (tb kt)))) with hq27 | hq27
          · rw [if_pos hq27] at hv25
            subst hv25
            refine lv_if_eq (tgt := 75) hx hb d_M_empty_59 (by decide) (fun c28 => absurd c28 (by decide)) (fun _ => ?_)
            refine lv_aload_n hx hb d_M_empty_62 rfl (lv_at hl 1 rfl) ?_
            refine lv_iconst (v := 2) hx hb d_M_empty_63 (by decide) ?_
            refine z_callQ (va_runV (C := "ValueTreesModel") (As := [.int 2]) (rest := []) ⟨hx, hb, hml, hown, hts⟩ (c_M_lay l D dT _ mm wd lf rt tc ty F sz Wk ([] : List Nat) dg dc sh hM hW 2 (by (try simp only [List.length_append, List.length_cons, List.length_nil, size4_len]); omega)) ⟨callB_of 1 hts (gI gd_up gd_c q635) rfl rfl rfl (ht _ q10) (ht _ q632) hd_M_lay ⟨Nat.le_of_ble_eq_true rfl, Nat.le_of_ble_eq_true rfl⟩, ht _ q634, ht _ qs22⟩ (z_preV hK (va_recv hK.1 hM.1 (ci := 10) (q0 := 0) rfl rfl)) rfl rfl hl.1 rfl (lv_room (Nat.le_of_ble_eq_true rfl)) d_M_empty_64 ⟨Nat.le_refl _, Nat.le_refl _⟩) hS (fun _ h9 => h9) (fun v30 H locs hv29 hz31 hf32 hS => ?_)
            obtain ⟨rfl, Wk, hW, hWk33, hM⟩ := hv29
            refine W.eq (g2 := F0 m 67 ls []) rfl ?_
            refine lv_aload_n hx hb d_M_empty_67 rfl (lv_at hl 1 rfl) ?_
            refine lv_iconst (v := 0) hx hb d_M_empty_68 (by decide) ?_
            refine z_callQ (va_runV (C := "ValueTreesModel") (As := [.int 0]) (rest := []) ⟨hx, hb, hml, hown, hts⟩ (c_M_putSize l D dT _ mm wd lf rt tc ty F sz Wk (([] : List Nat) ++ [2 % 256]) dg dc sh hM hW 0 (by omega) (by (try simp only [List.length_append, List.length_cons, List.length_nil, size4_len]); omega)) ⟨callB_of 1 hts (gI gd_up gd_c q687) rfl rfl rfl (ht _ q10) (ht _ q684) hd_M_putSize ⟨Nat.le_of_ble_eq_true rfl, Nat.le_of_ble_eq_true rfl⟩, ht _ q686, ht _ qs32⟩ (z_preV hK (va_recv hK.1 hM.1 (ci := 10) (q0 := 0) rfl rfl)) rfl rfl hl.1 rfl (lv_room (Nat.le_of_ble_eq_true rfl)) d_M_empty_69 ⟨Nat.le_refl _, Nat.le_refl _⟩) hS (fun _ h9 => h9) (fun v35 H locs hv34 hz36 hf37 hS => ?_)
            obtain ⟨rfl, Wk, hW, hWk38, hM⟩ := hv34
            refine W.eq (g2 := F0 m 72 ls []) rfl ?_
            refine lv_goto (tgt := 77) hx hb d_M_empty_72 (by decide) ?_
            refine lv_aload_n hx hb d_M_empty_77 rfl (lv_at hl 1 rfl) ?_
            refine lv_iload_n hx hb d_M_empty_78 rfl (lv_at hl 2 rfl) ?_
            refine lv_iload_n hx hb d_M_empty_79 rfl (lv_at hl 3 rfl) ?_
            have hw3 := (isTr_nI (by omega)).mp hq27
            have ebs : ([] : List Nat) ++ [2 % 256] ++ size4 0 = cs (.pow (.neg (.intCast 0)) kt) := rfl
            rw [ebs] at hW hM
            refine z_callQ (va_runV (C := "ValueTreesModel") (As := [.int (nI j), .int (nI kt)]) (rest := []) ⟨hx, hb, hml, hown, hts⟩ (c_M_keep l D dT _ mm wd lf rt tc ty F sz Wk (cs (.pow (.neg (.intCast 0)) kt)) dg dc sh hM hW j kt hj (by rw [← ebs]; simp only [List.length_append, List.length_cons, List.length_nil, size4_len]; omega)) ⟨callB_of 2 hts (gI gd_up gd_c q647) rfl rfl rfl (ht _ q10) (ht _ q644) hd_M_keep ⟨Nat.le_of_ble_eq_true rfl, Nat.le_of_ble_eq_true rfl⟩, ht _ q646, ht _ qs25⟩ (z_preV hK (va_recv hK.1 hM.1 (ci := 10) (q0 := 0) rfl rfl)) rfl rfl hl.1 rfl (lv_room (Nat.le_of_ble_eq_true rfl)) d_M_empty_80 ⟨Nat.le_refl _, Nat.le_refl _⟩) hS (fun _ h9 => h9) (fun v40 H locs hv39 hz41 hf42 hS => ?_)
            rcases hv39 with ⟨hk1, rfl, hM⟩ | ⟨hk1, rfl, hM⟩
            · refine W.eq (g2 := F0 m 83 ls [.int (-2)]) rfl ?_
              refine z_iretQ hx hb hr hlocks d_M_empty_83 hS (Nat.le_refl _) (Nat.le_refl _) ?_
              have eo := show o_empty tb tc (nI kt) = some (.pow (.neg (.intCast 0)) kt) from (by unfold o_empty; rw [tN_nI hkt htc]; dsimp only; rw [if_neg (by omega), if_neg (by omega), if_pos hw3])
              rw [eo]
              exact kO_done ⟨_, _, _, _, _, hW.1, Or.inl ⟨hk1, rfl, hM⟩⟩ hO hT hR hj hkt (neg_wty hw3 (by unfold cmd; split <;> simp [wty]))
            · refine W.eq (g2 := F0 m 83 ls [.int (nI (cs (.pow (.neg (.intCast 0)) kt)).length)]) rfl ?_
              refine z_iretQ hx hb hr hlocks d_M_empty_83 hS (Nat.le_refl _) (Nat.le_refl _) ?_
              have eo := show o_empty tb tc (nI kt) = some (.pow (.neg (.intCast 0)) kt) from (by unfold o_empty; rw [tN_nI hkt htc]; dsimp only; rw [if_neg (by omega), if_neg (by omega), if_pos hw3])
              rw [eo]
              exact kO_done ⟨_, _, _, _, _, hW.1, Or.inr ⟨hk1, rfl, hM⟩⟩ hO hT hR hj hkt (neg_wty hw3 (by unfold cmd; split <;> simp [wty]))
          · rw [if_neg hq27] at hv25
            subst hv25
            refine lv_if_eq (tgt := 75) hx hb d_M_empty_59 (by decide) (fun _ => ?_) (fun c43 => absurd c43 (by decide))
            refine lv_iconst (v := (-1)) hx hb d_M_empty_75 (by decide) ?_
            refine z_iretQ hx hb hr hlocks d_M_empty_76 hS (Nat.le_refl _) (Nat.le_refl _) ?_
            have eo : o_empty tb tc (nI kt) = none := by unfold o_empty; rw [tN_nI hkt htc]; dsimp only; rw [if_neg (by omega), if_neg (by omega), if_neg (fun h9 => hq27 ((isTr_nI (by omega)).mpr h9))]
            rw [eo]
            exact ⟨rfl, _, _, _, _, _, _, _, _, _, _, _, hM, hO, hT, hR, hWk⟩
      · have nc9 : (tW (tb kt)) = 10 := (nI_eq (a := (tW (tb kt))) (b := 10) (by omega) (by omega)).mp c9
        refine lv_aload_n hx hb d_M_empty_35 rfl (lv_at hl 1 rfl) ?_
        refine lv_iconst (v := 3) hx hb d_M_empty_36 (by decide) ?_
        refine z_callQ (va_runV (C := "ValueTreesModel") (As := [.int 3]) (rest := []) ⟨hx, hb, hml, hown, hts⟩ (c_M_lay l D dT _ mm wd lf rt tc ty F sz Wk ([] : List Nat) dg dc sh hM hW 3 (by (try simp only [List.length_append, List.length_cons, List.length_nil, size4_len]); omega)) ⟨callB_of 1 hts (gI gd_up gd_c q635) rfl rfl rfl (ht _ q10) (ht _ q632) hd_M_lay ⟨Nat.le_of_ble_eq_true rfl, Nat.le_of_ble_eq_true rfl⟩, ht _ q634, ht _ qs22⟩ (z_preV hK (va_recv hK.1 hM.1 (ci := 10) (q0 := 0) rfl rfl)) rfl rfl hl.1 rfl (lv_room (Nat.le_of_ble_eq_true rfl)) d_M_empty_37 ⟨Nat.le_refl _, Nat.le_refl _⟩) hS (fun _ h9 => h9) (fun v45 H locs hv44 hz46 hf47 hS => ?_)
        obtain ⟨rfl, Wk, hW, hWk48, hM⟩ := hv44
        refine W.eq (g2 := F0 m 40 ls []) rfl ?_
        refine lv_aload_n hx hb d_M_empty_40 rfl (lv_at hl 1 rfl) ?_
        refine lv_bipush (v := 6) hx hb d_M_empty_41 (by decide) ?_
        refine z_callQ (va_runV (C := "ValueTreesModel") (As := [.int 6]) (rest := []) ⟨hx, hb, hml, hown, hts⟩ (c_M_lay l D dT _ mm wd lf rt tc ty F sz Wk (([] : List Nat) ++ [3 % 256]) dg dc sh hM hW 6 (by (try simp only [List.length_append, List.length_cons, List.length_nil, size4_len]); omega)) ⟨callB_of 1 hts (gI gd_up gd_c q635) rfl rfl rfl (ht _ q10) (ht _ q632) hd_M_lay ⟨Nat.le_of_ble_eq_true rfl, Nat.le_of_ble_eq_true rfl⟩, ht _ q634, ht _ qs22⟩ (z_preV hK (va_recv hK.1 hM.1 (ci := 10) (q0 := 0) rfl rfl)) rfl rfl hl.1 rfl (lv_room (Nat.le_of_ble_eq_true rfl)) d_M_empty_43 ⟨Nat.le_refl _, Nat.le_refl _⟩) hS (fun _ h9 => h9) (fun v50 H locs hv49 hz51 hf52 hS => ?_)
        obtain ⟨rfl, Wk, hW, hWk53, hM⟩ := hv49
        refine W.eq (g2 := F0 m 46 ls []) rfl ?_
        refine lv_goto (tgt := 77) hx hb d_M_empty_46 (by decide) ?_
        refine lv_aload_n hx hb d_M_empty_77 rfl (lv_at hl 1 rfl) ?_
        refine lv_iload_n hx hb d_M_empty_78 rfl (lv_at hl 2 rfl) ?_
        refine lv_iload_n hx hb d_M_empty_79 rfl (lv_at hl 3 rfl) ?_
        have ht1 := not_one hO hkt (by omega)
        have ebs : ([] : List Nat) ++ [3 % 256] ++ [6 % 256] = cs (.pow (.var 1) kt) := (by show _ = [3, vtag 1 kt] ++ []; simp [vtag, ht1])
        rw [ebs] at hW hM
        refine z_callQ (va_runV (C := "ValueTreesModel") (As := [.int (nI j), .int (nI kt)]) (rest := []) ⟨hx, hb, hml, hown, hts⟩ (c_M_keep l D dT _ mm wd lf rt tc ty F sz Wk (cs (.pow (.var 1) kt)) dg dc sh hM hW j kt hj (by rw [← ebs]; simp only [List.length_append, List.length_cons, List.length_nil, size4_len]; omega)) ⟨callB_of 2 hts (gI gd_up gd_c q647) rfl rfl rfl (ht _ q10) (ht _ q644) hd_M_keep ⟨Nat.le_of_ble_eq_true rfl, Nat.le_of_ble_eq_true rfl⟩, ht _ q646, ht _ qs25⟩ (z_preV hK (va_recv hK.1 hM.1 (ci := 10) (q0 := 0) rfl rfl)) rfl rfl hl.1 rfl (lv_room (Nat.le_of_ble_eq_true rfl)) d_M_empty_80 ⟨Nat.le_refl _, Nat.le_refl _⟩) hS (fun _ h9 => h9) (fun v55 H locs hv54 hz56 hf57 hS => ?_)
        rcases hv54 with ⟨hk1, rfl, hM⟩ | ⟨hk1, rfl, hM⟩
        · refine W.eq (g2 := F0 m 83 ls [.int (-2)]) rfl ?_
          refine z_iretQ hx hb hr hlocks d_M_empty_83 hS (Nat.le_refl _) (Nat.le_refl _) ?_
          have eo := show o_empty tb tc (nI kt) = some (.pow (.var 1) kt) from (by unfold o_empty; rw [tN_nI hkt htc]; dsimp only; rw [if_pos nc9])
          rw [eo]
          exact kO_done ⟨_, _, _, _, _, hW.1, Or.inl ⟨hk1, rfl, hM⟩⟩ hO hT hR hj hkt ⟨rfl, rfl, rfl, Or.inr (Or.inr ⟨nc9, rfl⟩)⟩
        · refine W.eq (g2 := F0 m 83 ls [.int (nI (cs (.pow (.var 1) kt)).length)]) rfl ?_
          refine z_iretQ hx hb hr hlocks d_M_empty_83 hS (Nat.le_refl _) (Nat.le_refl _) ?_
          have eo := show o_empty tb tc (nI kt) = some (.pow (.var 1) kt) from (by unfold o_empty; rw [tN_nI hkt htc]; dsimp only; rw [if_pos nc9])
          rw [eo]
          exact kO_done ⟨_, _, _, _, _, hW.1, Or.inr ⟨hk1, rfl, hM⟩⟩ hO hT hR hj hkt ⟨rfl, rfl, rfl, Or.inr (Or.inr ⟨nc9, rfl⟩)⟩
    · rw [if_neg hq7] at hv5
      subst hv5
      refine lv_if_ne (tgt := 17) hx hb d_M_empty_12 (by decide) (fun c58 => absurd c58 (by decide)) (fun _ => ?_)
      refine lv_iconst (v := (-1)) hx hb d_M_empty_15 (by decide) ?_
      refine z_iretQ hx hb hr hlocks d_M_empty_16 hS (Nat.le_refl _) (Nat.le_refl _) ?_
      have eo : o_empty tb tc t = none := by unfold o_empty; rw [tN_none hq7]
      rw [eo]
      exact ⟨rfl, _, _, _, _, _, _, _, _, _, _, _, hM, hO, hT, hR, hWk⟩
  · rw [if_neg hq3] at hv1
    subst hv1
    refine lv_if_eq (tgt := 15) hx hb d_M_empty_4 (by decide) (fun _ => ?_) (fun c59 => absurd c59 (by decide))
    refine lv_iconst (v := (-1)) hx hb d_M_empty_15 (by decide) ?_
    refine z_iretQ hx hb hr hlocks d_M_empty_16 hS (Nat.le_refl _) (Nat.le_refl _) ?_
    rw [kp_out hq3]
    exact ⟨rfl, _, _, _, _, _, _, _, _, _, _, _, hM, hO, hT, hR, hWk⟩
theorem s01 {x : Int32} (h1 : ¬ x < 0) (h2 : x ≤ 1) : x = 0 ∨ x = 1 := by
  revert h1 h2; simp only [Int32.lt_iff_toInt_lt, Int32.le_iff_toInt_le, ← Int32.toInt_inj, Int32.reduceToInt]; intros; omega
theorem wrap_no {tb : Nat → TR} {tc : Nat} {RV : Nat → Option VT} {t side f : Int32} (h : ¬ (side = 0 ∨ side = 1)) : o_wrap tb tc RV t side f = none := by
  unfold o_wrap
  split
  · rw [if_neg (fun q => h (Or.inl q.1)), if_neg (fun q => h (Or.inl q.1)), if_neg (fun q => h (Or.inr q.1))]
  · rfl
theorem n01 {x : Int32} (h : x < 0 ∨ 1 < x) : ¬ (x = 0 ∨ x = 1) := by
  rintro (rfl | rfl) <;> revert h <;> decide
abbrev b_M_wrap : ByteArray := prog_12_method_37_code
abbrev y_M_wrap : MethodName := ⟨"ValueTreesModel", "wrap", "(IIII)I"⟩
abbrev w_M_wrap : List Cond := .code y_M_wrap b_M_wrap 7 (Option.some .int) :: gt
theorem hd_M_wrap : (y_M_wrap).cls ≠ "java/lang/invoke/MethodHandle" ∧ (y_M_wrap).cls ≠ "java/lang/invoke/VarHandle" ∧ (parseMethodDescriptor (y_M_wrap).desc).map (fun d => d.parameters.length) = some 4 := by decide +kernel
theorem d_M_wrap_0 : decode b_M_wrap 0 = .ok (.iload_n 1, 1) := by decide +kernel
theorem d_M_wrap_1 : decode b_M_wrap 1 = .ok (.invokestatic 66, 3) := by decide +kernel
theorem d_M_wrap_4 : decode b_M_wrap 4 = .ok (.ifCond .eq 29, 3) := by decide +kernel
theorem d_M_wrap_7 : decode b_M_wrap 7 = .ok (.aload_n 0, 1) := by decide +kernel
theorem d_M_wrap_8 : decode b_M_wrap 8 = .ok (.iload_n 2, 1) := by decide +kernel
theorem d_M_wrap_9 : decode b_M_wrap 9 = .ok (.invokevirtual 60, 3) := by decide +kernel
theorem d_M_wrap_12 : decode b_M_wrap 12 = .ok (.ifCond .eq 21, 3) := by decide +kernel
theorem d_M_wrap_15 : decode b_M_wrap 15 = .ok (.aload_n 0, 1) := by decide +kernel
theorem d_M_wrap_16 : decode b_M_wrap 16 = .ok (.iload 4, 2) := by decide +kernel
theorem d_M_wrap_18 : decode b_M_wrap 18 = .ok (.invokevirtual 69, 3) := by decide +kernel
theorem d_M_wrap_21 : decode b_M_wrap 21 = .ok (.ifCond .eq 12, 3) := by decide +kernel
theorem d_M_wrap_24 : decode b_M_wrap 24 = .ok (.iload_n 3, 1) := by decide +kernel
theorem d_M_wrap_25 : decode b_M_wrap 25 = .ok (.ifCond .lt 8, 3) := by decide +kernel
theorem d_M_wrap_28 : decode b_M_wrap 28 = .ok (.iload_n 3, 1) := by decide +kernel
theorem d_M_wrap_29 : decode b_M_wrap 29 = .ok (.iconst 1, 1) := by decide +kernel
theorem d_M_wrap_30 : decode b_M_wrap 30 = .ok (.if_icmp .le 5, 3) := by decide +kernel
theorem d_M_wrap_33 : decode b_M_wrap 33 = .ok (.iconst (-1), 1) := by decide +kernel
theorem d_M_wrap_34 : decode b_M_wrap 34 = .ok (.ireturn, 1) := by decide +kernel
theorem d_M_wrap_35 : decode b_M_wrap 35 = .ok (.aload_n 0, 1) := by decide +kernel
theorem d_M_wrap_36 : decode b_M_wrap 36 = .ok (.getfield 7, 3) := by decide +kernel
theorem d_M_wrap_39 : decode b_M_wrap 39 = .ok (.iload_n 2, 1) := by decide +kernel
theorem d_M_wrap_40 : decode b_M_wrap 40 = .ok (.iaload, 1) := by decide +kernel
theorem d_M_wrap_41 : decode b_M_wrap 41 = .ok (.istore 5, 2) := by decide +kernel
theorem d_M_wrap_43 : decode b_M_wrap 43 = .ok (.iload 5, 2) := by decide +kernel
theorem d_M_wrap_45 : decode b_M_wrap 45 = .ok (.bipush 10, 2) := by decide +kernel
theorem d_M_wrap_47 : decode b_M_wrap 47 = .ok (.if_icmp .ne 15, 3) := by decide +kernel
theorem d_M_wrap_50 : decode b_M_wrap 50 = .ok (.iload_n 3, 1) := by decide +kernel
theorem d_M_wrap_51 : decode b_M_wrap 51 = .ok (.ifCond .ne 7, 3) := by decide +kernel
theorem d_M_wrap_54 : decode b_M_wrap 54 = .ok (.iconst 1, 1) := by decide +kernel
theorem d_M_wrap_55 : decode b_M_wrap 55 = .ok (.goto 19, 3) := by decide +kernel
theorem d_M_wrap_58 : decode b_M_wrap 58 = .ok (.iconst 0, 1) := by decide +kernel
theorem d_M_wrap_59 : decode b_M_wrap 59 = .ok (.goto 15, 3) := by decide +kernel
theorem d_M_wrap_62 : decode b_M_wrap 62 = .ok (.iload 5, 2) := by decide +kernel
theorem d_M_wrap_64 : decode b_M_wrap 64 = .ok (.bipush 14, 2) := by decide +kernel
theorem d_M_wrap_66 : decode b_M_wrap 66 = .ok (.if_icmp .ne 7, 3) := by decide +kernel
theorem d_M_wrap_69 : decode b_M_wrap 69 = .ok (.iconst 1, 1) := by decide +kernel
theorem d_M_wrap_70 : decode b_M_wrap 70 = .ok (.goto 4, 3) := by decide +kernel
theorem d_M_wrap_73 : decode b_M_wrap 73 = .ok (.iconst 0, 1) := by decide +kernel
theorem d_M_wrap_74 : decode b_M_wrap 74 = .ok (.istore 6, 2) := by decide +kernel
theorem d_M_wrap_76 : decode b_M_wrap 76 = .ok (.iload 6, 2) := by decide +kernel
theorem d_M_wrap_78 : decode b_M_wrap 78 = .ok (.ifCond .eq 32, 3) := by decide +kernel
theorem d_M_wrap_81 : decode b_M_wrap 81 = .ok (.aload_n 0, 1) := by decide +kernel
theorem d_M_wrap_82 : decode b_M_wrap 82 = .ok (.getfield 19, 3) := by decide +kernel
theorem d_M_wrap_85 : decode b_M_wrap 85 = .ok (.iload 4, 2) := by decide +kernel
theorem d_M_wrap_87 : decode b_M_wrap 87 = .ok (.iaload, 1) := by decide +kernel
theorem d_M_wrap_88 : decode b_M_wrap 88 = .ok (.iload_n 3, 1) := by decide +kernel
theorem d_M_wrap_89 : decode b_M_wrap 89 = .ok (.ifCond .ne 12, 3) := by decide +kernel
theorem d_M_wrap_92 : decode b_M_wrap 92 = .ok (.aload_n 0, 1) := by decide +kernel
theorem d_M_wrap_93 : decode b_M_wrap 93 = .ok (.getfield 13, 3) := by decide +kernel
theorem d_M_wrap_96 : decode b_M_wrap 96 = .ok (.iload_n 2, 1) := by decide +kernel
theorem d_M_wrap_97 : decode b_M_wrap 97 = .ok (.iaload, 1) := by decide +kernel
theorem d_M_wrap_98 : decode b_M_wrap 98 = .ok (.goto 9, 3) := by decide +kernel
theorem d_M_wrap_101 : decode b_M_wrap 101 = .ok (.aload_n 0, 1) := by decide +kernel
theorem d_M_wrap_102 : decode b_M_wrap 102 = .ok (.getfield 16, 3) := by decide +kernel
theorem d_M_wrap_105 : decode b_M_wrap 105 = .ok (.iload_n 2, 1) := by decide +kernel
theorem d_M_wrap_106 : decode b_M_wrap 106 = .ok (.iaload, 1) := by decide +kernel
theorem d_M_wrap_107 : decode b_M_wrap 107 = .ok (.if_icmp .eq 5, 3) := by decide +kernel
theorem d_M_wrap_110 : decode b_M_wrap 110 = .ok (.iconst (-1), 1) := by decide +kernel
theorem d_M_wrap_111 : decode b_M_wrap 111 = .ok (.ireturn, 1) := by decide +kernel
theorem d_M_wrap_112 : decode b_M_wrap 112 = .ok (.aload_n 0, 1) := by decide +kernel
theorem d_M_wrap_113 : decode b_M_wrap 113 = .ok (.iconst 0, 1) := by decide +kernel
theorem d_M_wrap_114 : decode b_M_wrap 114 = .ok (.putfield 98, 3) := by decide +kernel
theorem d_M_wrap_117 : decode b_M_wrap 117 = .ok (.aload_n 0, 1) := by decide +kernel
theorem d_M_wrap_118 : decode b_M_wrap 118 = .ok (.iconst 5, 1) := by decide +kernel
theorem d_M_wrap_119 : decode b_M_wrap 119 = .ok (.invokevirtual 101, 3) := by decide +kernel
theorem d_M_wrap_122 : decode b_M_wrap 122 = .ok (.aload_n 0, 1) := by decide +kernel
theorem d_M_wrap_123 : decode b_M_wrap 123 = .ok (.iload 5, 2) := by decide +kernel
theorem d_M_wrap_125 : decode b_M_wrap 125 = .ok (.bipush 10, 2) := by decide +kernel
theorem d_M_wrap_127 : decode b_M_wrap 127 = .ok (.if_icmp .ne 8, 3) := by decide +kernel
theorem d_M_wrap_130 : decode b_M_wrap 130 = .ok (.bipush 9, 2) := by decide +kernel
theorem d_M_wrap_132 : decode b_M_wrap 132 = .ok (.goto 13, 3) := by decide +kernel
theorem d_M_wrap_135 : decode b_M_wrap 135 = .ok (.iload_n 3, 1) := by decide +kernel
theorem d_M_wrap_136 : decode b_M_wrap 136 = .ok (.ifCond .ne 7, 3) := by decide +kernel
theorem d_M_wrap_139 : decode b_M_wrap 139 = .ok (.iconst 5, 1) := by decide +kernel
theorem d_M_wrap_140 : decode b_M_wrap 140 = .ok (.goto 5, 3) := by decide +kernel
theorem d_M_wrap_143 : decode b_M_wrap 143 = .ok (.bipush 8, 2) := by decide +kernel
theorem d_M_wrap_145 : decode b_M_wrap 145 = .ok (.invokevirtual 101, 3) := by decide +kernel
theorem d_M_wrap_148 : decode b_M_wrap 148 = .ok (.aload_n 0, 1) := by decide +kernel
theorem d_M_wrap_149 : decode b_M_wrap 149 = .ok (.iload 4, 2) := by decide +kernel
theorem d_M_wrap_151 : decode b_M_wrap 151 = .ok (.invokestatic 112, 3) := by decide +kernel
theorem d_M_wrap_154 : decode b_M_wrap 154 = .ok (.iload 4, 2) := by decide +kernel
theorem d_M_wrap_156 : decode b_M_wrap 156 = .ok (.invokestatic 112, 3) := by decide +kernel
theorem d_M_wrap_159 : decode b_M_wrap 159 = .ok (.aload_n 0, 1) := by decide +kernel
theorem d_M_wrap_160 : decode b_M_wrap 160 = .ok (.getfield 26, 3) := by decide +kernel
theorem d_M_wrap_163 : decode b_M_wrap 163 = .ok (.iload 4, 2) := by decide +kernel
theorem d_M_wrap_165 : decode b_M_wrap 165 = .ok (.iaload, 1) := by decide +kernel
theorem d_M_wrap_166 : decode b_M_wrap 166 = .ok (.iadd, 1) := by decide +kernel
theorem d_M_wrap_167 : decode b_M_wrap 167 = .ok (.invokevirtual 139, 3) := by decide +kernel
theorem d_M_wrap_170 : decode b_M_wrap 170 = .ok (.aload_n 0, 1) := by decide +kernel
theorem d_M_wrap_171 : decode b_M_wrap 171 = .ok (.iload_n 1, 1) := by decide +kernel
theorem d_M_wrap_172 : decode b_M_wrap 172 = .ok (.iload_n 2, 1) := by decide +kernel
theorem d_M_wrap_173 : decode b_M_wrap 173 = .ok (.invokevirtual 121, 3) := by decide +kernel
theorem d_M_wrap_176 : decode b_M_wrap 176 = .ok (.ireturn, 1) := by decide +kernel
set_option maxHeartbeats 4000000 in
set_option maxRecDepth 100000 in
theorem p_M_wrap (l : Launch) (D : va_G) (dT : Nat → ClassId) (H : Heap) (mm : Nat → Nat) (tb : Nat → TR) (tc : Nat) (RV : Nat → Option VT) (hI : mI D dT mm tb tc RV H) (r t side f : Int32) : Met l y_M_wrap w_M_wrap ({ frames := 3, cells := 0, slots := 0, locals := 62 }) (z_P D dT [.ref (mm 0), .int r, .int t, .int side, .int f] H) (z_Q (mA mm) (fun v H1 => v = some (.int (kp RV r (o_wrap tb tc RV t side f)).1) ∧ mI D dT mm tb tc (kp RV r (o_wrap tb tc RV t side f)).2 H1)) 0 0 (mA mm) := by
  obtain ⟨wd, lf, rt, ty, F, sz, Wk, wz, dg, dc, sh, hM, hO, hT, hR, hWk⟩ := hI
  have hF := hR.1
  have htc := hO.1
  have htc10 := hO.2.1
  refine Met.ofW (cc := b_M_wrap) (maxL := 7) (ret := (Option.some .int)) (by decide) rfl ?_
  intro p e s m args below meth c s₁ B hml hv
  obtain ⟨rfl, rfl, hK⟩ := hv
  have hx := B.exec
  have hb := B.bytes
  have hr := B.returns
  have hts := atoms_spec (ws := w_M_wrap) B.pre
  have ht : ∀ w9 ∈ gt, w9.before [.ref (mm 0), .int r, .int t, .int side, .int f].toArray s = true := fun w9 h => hts w9 (List.mem_cons_of_mem _ h)
  have hown : s.vm.findClass "ValueTreesModel" = some m.cls := findClass_of_methodNamed B.named
  have hlocks := B.notSynchronized
  have hS : va_S (mA mm) s.heap s.heap [] := va_S.rf
  have hl := lv_entry ([.ref (mm 0), .int r, .int t, .int side, .int f]) (n := 7) (Nat.le_of_ble_eq_true rfl)
  rw [lg_entry_eq]
  generalize (lg_sl ([.ref (mm 0), .int r, .int t, .int side, .int f]) ++ List.replicate (7 - (lg_sl ([.ref (mm 0), .int r, .int t, .int side, .int f])).length) Slot.unset).toArray = ls at hl ⊢
  have hl : lv_has ls 7 [(0, .ref (mm 0)), (1, .int r), (2, .int t), (3, .int side), (4, .int f)] := hl
  refine lv_iload_n hx hb d_M_wrap_0 rfl (lv_at hl 1 rfl) ?_
  refine z_callR (va_runS (As := [.int r]) (rest := []) ⟨hx, hb, hml, hown, hts⟩ (c_M_isRegister l D dT _ r) ⟨callB_of 1 hts (gI gd_up gd_c q619) rfl rfl rfl (ht _ q10) (ht _ q617) hd_M_isRegister ⟨Nat.le_of_ble_eq_true rfl, Nat.le_of_ble_eq_true rfl⟩, ht _ q618⟩ (z_preS hK) rfl rfl hl.1 rfl (lv_room (Nat.le_of_ble_eq_true rfl)) d_M_wrap_1 ⟨Nat.zero_le _, Nat.zero_le _⟩) (fun v2 hv1 => ?_)
  have hv1 : v2 = .int (if inR r then 1 else 0) := hv1
  rcases Classical.em (inR r) with hq3 | hq3
  · rw [if_pos hq3] at hv1
    subst hv1
    refine lv_if_eq (tgt := 33) hx hb d_M_wrap_4 (by decide) (fun c4 => absurd c4 (by decide)) (fun _ => ?_)
    obtain ⟨j, hj, rfl⟩ := inR_of hq3
    refine lv_aload_n hx hb d_M_wrap_7 rfl (lv_at hl 0 rfl) ?_
    refine lv_iload_n hx hb d_M_wrap_8 rfl (lv_at hl 2 rfl) ?_
    refine z_callR (va_runV (C := "ValueTreesModel") (As := [.int t]) (rest := []) ⟨hx, hb, hml, hown, hts⟩ (c_M_isType l D dT _ mm wd lf rt tc ty F sz Wk wz dg dc sh hM t) ⟨callB_of 1 hts (gI gd_up gd_c q584) rfl rfl rfl (ht _ q10) (ht _ q581) hd_M_isType ⟨Nat.le_of_ble_eq_true rfl, Nat.le_of_ble_eq_true rfl⟩, ht _ q583, ht _ qs13⟩ (z_preV hK (va_recv hK.1 hM.1 (ci := 10) (q0 := 0) rfl rfl)) rfl rfl hl.1 rfl (lv_room (Nat.le_of_ble_eq_true rfl)) d_M_wrap_9 ⟨Nat.zero_le _, Nat.zero_le _⟩) (fun v6 hv5 => ?_)
    have hv5 : v6 = .int (if 0 ≤ t ∧ t < nI tc then 1 else 0) := hv5
    rcases Classical.em (0 ≤ t ∧ t < nI tc) with hq7 | hq7
    · rw [if_pos hq7] at hv5
      subst hv5
      refine lv_if_eq (tgt := 33) hx hb d_M_wrap_12 (by decide) (fun c8 => absurd c8 (by decide)) (fun _ => ?_)
      obtain ⟨kt, hkt, rfl⟩ := tN_of hq7 htc
      have ekt1 := (hT kt hkt).1
      have ekt2 := (hT kt hkt).2.1
      have ekt3 := (hT kt hkt).2.2
      have rkt1 := (hO.2.2 kt hkt).1
      have rkt2 := (hO.2.2 kt hkt).2.1
      refine lv_aload_n hx hb d_M_wrap_15 rfl (lv_at hl 0 rfl) ?_
      refine lv_iload hx hb d_M_wrap_16 (lv_at hl 4 rfl) ?_
      refine z_callR (va_runV (C := "ValueTreesModel") (As := [.int f]) (rest := []) ⟨hx, hb, hml, hown, hts⟩ (c_M_hasValue l D dT _ mm wd lf rt tc ty F sz Wk wz dg dc sh hM tb hO hT RV hR f) ⟨callB_of 1 hts (gI gd_up gd_c q662) rfl rfl rfl (ht _ q10) (ht _ q659) hd_M_hasValue ⟨Nat.le_of_ble_eq_true rfl, Nat.le_of_ble_eq_true rfl⟩, ht _ q661, ht _ qs27⟩ (z_preV hK (va_recv hK.1 hM.1 (ci := 10) (q0 := 0) rfl rfl)) rfl rfl hl.1 rfl (lv_room (Nat.le_of_ble_eq_true rfl)) d_M_wrap_18 ⟨Nat.zero_le _, Nat.zero_le _⟩) (fun v10 hv9 => ?_)
      have hv9 : v10 = .int (if (rgs RV f).isSome = true then 1 else 0) := hv9
      cases hr11 : rgs RV f with
      | none =>
        rw [hr11] at hv9
        subst hv9
        try dsimp only
        refine W.eq (g2 := F0 m 21 ls [.int 0]) rfl ?_
        refine lv_if_eq (tgt := 33) hx hb d_M_wrap_21 (by decide) (fun _ => ?_) (fun c14 => absurd c14 (by decide))
        refine lv_iconst (v := (-1)) hx hb d_M_wrap_33 (by decide) ?_
        refine z_iretQ hx hb hr hlocks d_M_wrap_34 hS (Nat.le_refl _) (Nat.le_refl _) ?_
        have eo : o_wrap tb tc RV (nI kt) side f = none := by unfold o_wrap; rw [hr11, tN_nI hkt htc]
        rw [eo]
        exact ⟨rfl, _, _, _, _, _, _, _, _, _, _, _, hM, hO, hT, hR, hWk⟩
      | some v12 =>
        rw [hr11] at hv9
        subst hv9
        refine W.eq (g2 := F0 m 21 ls [.int 1]) rfl ?_
        obtain ⟨j13, hj13, rfl, hV12⟩ := rgs_some hr11
        obtain ⟨ht12, et12, hw12, es12, hn12, hf12⟩ := mR_some hR hj13 hV12
        refine lv_if_eq (tgt := 33) hx hb d_M_wrap_21 (by decide) (fun c15 => absurd c15 (by decide)) (fun _ => ?_)
        refine lv_iload_n hx hb d_M_wrap_24 rfl (lv_at hl 3 rfl) ?_
        refine lv_if_lt (tgt := 33) hx hb d_M_wrap_25 (by decide) (fun c16 => ?_) (fun c16 => ?_)
        · refine lv_iconst (v := (-1)) hx hb d_M_wrap_33 (by decide) ?_
          refine z_iretQ hx hb hr hlocks d_M_wrap_34 hS (Nat.le_refl _) (Nat.le_refl _) ?_
          have eo : o_wrap tb tc RV (nI kt) side (nI j13) = none := wrap_no (n01 (Or.inl c16))
          rw [eo]
          exact ⟨rfl, _, _, _, _, _, _, _, _, _, _, _, hM, hO, hT, hR, hWk⟩
        · refine lv_iload_n hx hb d_M_wrap_28 rfl (lv_at hl 3 rfl) ?_
          refine lv_iconst (v := 1) hx hb d_M_wrap_29 (by decide) ?_
          refine lv_icmp_le (tgt := 35) hx hb d_M_wrap_30 (by decide) (fun c17 => ?_) (fun c17 => ?_)
          · rcases s01 c16 c17 with rfl | rfl
            · refine lv_aload_n hx hb d_M_wrap_35 rfl (lv_at hl 0 rfl) ?_
              refine va_get (D := D) (ci := 10) (v := .ref (mm 1)) (C := "ValueTreesModel") (T := T_M) (N := 12) hx hb ht in_M hown hK.1 hM.1 0 rfl rfl 0 (by decide) (ht _ q539) (fun _ h9 => h9) rfl d_M_wrap_36 ?_
              refine lv_iload_n hx hb d_M_wrap_39 rfl (lv_at hl 2 rfl) ?_
              refine z_iald hx hb hK (hM.1 1 _ rfl) kt rfl (by omega) (by decide) d_M_wrap_40 ?_
              rw [ekt1]
              refine lv_istore (lv' := [(5, .int (nI (tW (tb kt)))), (0, .ref (mm 0)), (1, .int (nI j)), (2, .int (nI kt)), (3, .int 0), (4, .int (nI j13))]) hx hb d_M_wrap_41 hl (by decide) rfl (fun ls hl => ?_)
              refine lv_iload hx hb d_M_wrap_43 (lv_at hl 0 rfl) ?_
              refine lv_bipush (v := 10) hx hb d_M_wrap_45 (by decide) ?_
              refine lv_icmp_ne (tgt := 62) hx hb d_M_wrap_47 (by decide) (fun c18 => ?_) (fun c18 => ?_)
              · have nc18 : ¬ (tW (tb kt)) = 10 := fun h9 => c18 ((nI_eq (a := (tW (tb kt))) (b := 10) (by omega) (by omega)).mpr h9)
                refine lv_iload hx hb d_M_wrap_62 (lv_at hl 0 rfl) ?_
                refine lv_bipush (v := 14) hx hb d_M_wrap_64 (by decide) ?_
                refine lv_icmp_ne (tgt := 73) hx hb d_M_wrap_66 (by decide) (fun c19 => ?_) (fun c19 => ?_)
                · have nc19 : ¬ (tW (tb kt)) = 14 := fun h9 => c19 ((nI_eq (a := (tW (tb kt))) (b := 14) (by omega) (by omega)).mpr h9)
                  refine lv_iconst (v := 0) hx hb d_M_wrap_73 (by decide) ?_
                  refine lv_istore (lv' := [(6, .int 0), (5, .int (nI (tW (tb kt)))), (0, .ref (mm 0)), (1, .int (nI j)), (2, .int (nI kt)), (3, .int 0), (4, .int (nI j13))]) hx hb d_M_wrap_74 hl (by decide) rfl (fun ls hl => ?_)
                  refine lv_iload hx hb d_M_wrap_76 (lv_at hl 0 rfl) ?_
                  refine lv_if_eq (tgt := 110) hx hb d_M_wrap_78 (by decide) (fun _ => ?_) (fun c20 => absurd c20 (by decide))
                  refine lv_iconst (v := (-1)) hx hb d_M_wrap_110 (by decide) ?_
                  refine z_iretQ hx hb hr hlocks d_M_wrap_111 hS (Nat.le_refl _) (Nat.le_refl _) ?_
                  have eo : o_wrap tb tc RV (nI kt) 0 (nI j13) = none := by unfold o_wrap; rw [tN_nI hkt htc, rgs_nI hj13, hV12]; simp [nc18, nc19]
                  rw [eo]
                  exact ⟨rfl, _, _, _, _, _, _, _, _, _, _, _, hM, hO, hT, hR, hWk⟩
                · have nc19 : (tW (tb kt)) = 14 := (nI_eq (a := (tW (tb kt))) (b := 14) (by omega) (by omega)).mp c19
                  have hword : tW (tb kt) = 14 := nc19
                  refine lv_iconst (v := 1) hx hb d_M_wrap_69 (by decide) ?_
                  refine lv_goto (tgt := 74) hx hb d_M_wrap_70 (by decide) ?_
                  refine lv_istore (lv' := [(6, .int 1), (5, .int (nI (tW (tb kt)))), (0, .ref (mm 0)), (1, .int (nI j)), (2, .int (nI kt)), (3, .int 0), (4, .int (nI j13))]) hx hb d_M_wrap_74 hl (by decide) rfl (fun ls hl => ?_)
                  refine lv_iload hx hb d_M_wrap_76 (lv_at hl 0 rfl) ?_
                  refine lv_if_eq (tgt := 110) hx hb d_M_wrap_78 (by decide) (fun c21 => absurd c21 (by decide)) (fun _ => ?_)
                  refine lv_aload_n hx hb d_M_wrap_81 rfl (lv_at hl 2 rfl) ?_
                  refine va_get (D := D) (ci := 10) (v := .ref (mm 4)) (C := "ValueTreesModel") (T := T_M) (N := 12) hx hb ht in_M hown hK.1 hM.1 0 rfl rfl 4 (by decide) (ht _ q543) (fun _ h9 => h9) rfl d_M_wrap_82 ?_
                  refine lv_iload hx hb d_M_wrap_85 (lv_at hl 6 rfl) ?_
                  refine z_iald hx hb hK (hM.1 4 _ rfl) j13 rfl (by omega) (by decide) d_M_wrap_87 ?_
                  rw [et12]
                  refine lv_iload_n hx hb d_M_wrap_88 rfl (lv_at hl 5 rfl) ?_
                  refine lv_if_ne (tgt := 101) hx hb d_M_wrap_89 (by decide) (fun c22 => absurd c22 (by decide)) (fun _ => ?_)
                  obtain ⟨hLk, hltk, hlpk⟩ := tl_some hO hkt (by omega)
                  have elk : lf kt = nI (lt_ tb kt) := by rw [(hT _ hkt).2.1, hLk]; rfl
                  refine lv_aload_n hx hb d_M_wrap_92 rfl (lv_at hl 2 rfl) ?_
                  refine va_get (D := D) (ci := 10) (v := .ref (mm 2)) (C := "ValueTreesModel") (T := T_M) (N := 12) hx hb ht in_M hown hK.1 hM.1 0 rfl rfl 1 (by decide) (ht _ q540) (fun _ h9 => h9) rfl d_M_wrap_93 ?_
                  refine lv_iload_n hx hb d_M_wrap_96 rfl (lv_at hl 4 rfl) ?_
                  refine z_iald hx hb hK (hM.1 2 _ rfl) kt rfl (by omega) (by decide) d_M_wrap_97 ?_
                  rw [elk]
                  refine lv_goto (tgt := 107) hx hb d_M_wrap_98 (by decide) ?_
                  refine lv_icmp_eq (tgt := 112) hx hb d_M_wrap_107 (by decide) (fun c23 => ?_) (fun c23 => ?_)
                  · have nc23 : (vty v12) = (lt_ tb kt) := (nI_eq (a := (vty v12)) (b := (lt_ tb kt)) (by omega) (by omega)).mp c23
                    refine lv_aload_n hx hb d_M_wrap_112 rfl (lv_at hl 2 rfl) ?_
                    refine lv_iconst (v := 0) hx hb d_M_wrap_113 (by decide) ?_
                    refine m_put_wz hx hb ht hown hK hM hS (ht _ q547) 0 rfl d_M_wrap_114 (fun H locs hM hS => ?_)
                    have hM : mAt D dT mm wd lf rt tc ty F sz Wk 0 dg dc sh H := hM
                    have hW : wAt Wk ([] : List Nat) := wAt_nil hWk
                    have hM : mAt D dT mm wd lf rt tc ty F sz Wk (([] : List Nat).length) dg dc sh H := hM
                    refine lv_aload_n hx hb d_M_wrap_117 rfl (lv_at hl 2 rfl) ?_
                    refine lv_iconst (v := 5) hx hb d_M_wrap_118 (by decide) ?_
                    refine z_callQ (va_runV (C := "ValueTreesModel") (As := [.int 5]) (rest := []) ⟨hx, hb, hml, hown, hts⟩ (c_M_lay l D dT _ mm wd lf rt tc ty F sz Wk ([] : List Nat) dg dc sh hM hW 5 (by (try simp only [List.length_append, List.length_cons, List.length_nil, size4_len]); omega)) ⟨callB_of 1 hts (gI gd_up gd_c q635) rfl rfl rfl (ht _ q10) (ht _ q632) hd_M_lay ⟨Nat.le_of_ble_eq_true rfl, Nat.le_of_ble_eq_true rfl⟩, ht _ q634, ht _ qs22⟩ (z_preV hK (va_recv hK.1 hM.1 (ci := 10) (q0 := 0) rfl rfl)) rfl rfl hl.1 rfl (lv_room (Nat.le_of_ble_eq_true rfl)) d_M_wrap_119 ⟨Nat.le_refl _, Nat.le_refl _⟩) hS (fun _ h9 => h9) (fun v25 H locs hv24 hz26 hf27 hS => ?_)
                    obtain ⟨rfl, Wk, hW, hWk28, hM⟩ := hv24
                    refine W.eq (g2 := F0 m 122 ls []) rfl ?_
                    refine lv_aload_n hx hb d_M_wrap_122 rfl (lv_at hl 2 rfl) ?_
                    refine lv_iload hx hb d_M_wrap_123 (lv_at hl 1 rfl) ?_
                    refine lv_bipush (v := 10) hx hb d_M_wrap_125 (by decide) ?_
                    refine lv_icmp_ne (tgt := 135) hx hb d_M_wrap_127 (by decide) (fun c29 => ?_) (fun c29 => absurd ((nI_eq (a := (tW (tb kt))) (b := 10) (by omega) (by omega)).mp c29) (by omega))
                    refine lv_iload_n hx hb d_M_wrap_135 rfl (lv_at hl 5 rfl) ?_
                    refine lv_if_ne (tgt := 143) hx hb d_M_wrap_136 (by decide) (fun c30 => absurd c30 (by decide)) (fun _ => ?_)
                    refine lv_iconst (v := 5) hx hb d_M_wrap_139 (by decide) ?_
                    refine lv_goto (tgt := 145) hx hb d_M_wrap_140 (by decide) ?_
                    refine z_callQ (va_runV (C := "ValueTreesModel") (As := [.int 5]) (rest := []) ⟨hx, hb, hml, hown, hts⟩ (c_M_lay l D dT _ mm wd lf rt tc ty F sz Wk (([] : List Nat) ++ [5 % 256]) dg dc sh hM hW 5 (by (try simp only [List.length_append, List.length_cons, List.length_nil, size4_len]); omega)) ⟨callB_of 1 hts (gI gd_up gd_c q635) rfl rfl rfl (ht _ q10) (ht _ q632) hd_M_lay ⟨Nat.le_of_ble_eq_true rfl, Nat.le_of_ble_eq_true rfl⟩, ht _ q634, ht _ qs22⟩ (z_preV hK (va_recv hK.1 hM.1 (ci := 10) (q0 := 0) rfl rfl)) rfl rfl hl.1 rfl (lv_room (Nat.le_of_ble_eq_true rfl)) d_M_wrap_145 ⟨Nat.le_refl _, Nat.le_refl _⟩) hS (fun _ h9 => h9) (fun v32 H locs hv31 hz33 hf34 hS => ?_)
                    obtain ⟨rfl, Wk, hW, hWk35, hM⟩ := hv31
                    refine W.eq (g2 := F0 m 148 ls []) rfl ?_
                    refine lv_aload_n hx hb d_M_wrap_148 rfl (lv_at hl 2 rfl) ?_
                    refine lv_iload hx hb d_M_wrap_149 (lv_at hl 6 rfl) ?_
                    refine z_callR (va_runS (As := [.int (nI j13)]) (rest := [.ref (mm 0)]) ⟨hx, hb, hml, hown, hts⟩ (c_M_base l D dT _ (nI j13)) ⟨callB_of 1 hts (gI gd_up gd_c q650) rfl rfl rfl (ht _ q10) (ht _ q648) hd_M_base ⟨Nat.le_of_ble_eq_true rfl, Nat.le_of_ble_eq_true rfl⟩, ht _ q649⟩ (z_preS hK) rfl rfl hl.1 rfl (lv_room (Nat.le_of_ble_eq_true rfl)) d_M_wrap_151 ⟨Nat.zero_le _, Nat.zero_le _⟩) (fun v37 hv36 => ?_)
                    subst hv36
                    rw [show (160 * nI j13 : Int32) = nI (160 * j13) from pk_mul 160 j13]
                    refine lv_iload hx hb d_M_wrap_154 (lv_at hl 6 rfl) ?_
                    refine z_callR (va_runS (As := [.int (nI j13)]) (rest := [.int (nI (160 * j13)), .ref (mm 0)]) ⟨hx, hb, hml, hown, hts⟩ (c_M_base l D dT _ (nI j13)) ⟨callB_of 1 hts (gI gd_up gd_c q650) rfl rfl rfl (ht _ q10) (ht _ q648) hd_M_base ⟨Nat.le_of_ble_eq_true rfl, Nat.le_of_ble_eq_true rfl⟩, ht _ q649⟩ (z_preS hK) rfl rfl hl.1 rfl (lv_room (Nat.le_of_ble_eq_true rfl)) d_M_wrap_156 ⟨Nat.zero_le _, Nat.zero_le _⟩) (fun v39 hv38 => ?_)
                    subst hv38
                    rw [show (160 * nI j13 : Int32) = nI (160 * j13) from pk_mul 160 j13]
                    refine lv_aload_n hx hb d_M_wrap_159 rfl (lv_at hl 2 rfl) ?_
                    refine va_get (D := D) (ci := 10) (v := .ref (mm 6)) (C := "ValueTreesModel") (T := T_M) (N := 12) hx hb ht in_M hown hK.1 hM.1 0 rfl rfl 6 (by decide) (ht _ q545) (fun _ h9 => h9) rfl d_M_wrap_160 ?_
                    refine lv_iload hx hb d_M_wrap_163 (lv_at hl 6 rfl) ?_
                    refine z_iald hx hb hK (hM.1 6 _ rfl) j13 rfl (by omega) (by decide) d_M_wrap_165 ?_
                    rw [es12]
                    refine lv_iadd hx hb d_M_wrap_166 ?_
                    rw [show (((nI (160 * j13)) + (nI (cs v12).length)) : Int32) = nI ((160 * j13) + ((cs v12).length)) from nI_add (160 * j13) ((cs v12).length)]
                    refine z_callQ (va_runV (C := "ValueTreesModel") (As := [.int (nI (160 * j13)), .int (nI ((160 * j13) + ((cs v12).length)))]) (rest := []) ⟨hx, hb, hml, hown, hts⟩ (c_M_putFrom l D dT _ mm wd lf rt tc ty F sz Wk (([] : List Nat) ++ [5 % 256] ++ [5 % 256]) dg dc sh hM hW hF (160 * j13) (cs v12) hf12 (by omega) (by (try simp only [List.length_append, List.length_cons, List.length_nil, size4_len]); omega)) ⟨callB_of 2 hts (gI gd_up gd_c q707) rfl rfl rfl (ht _ q10) (ht _ q704) hd_M_putFrom ⟨Nat.le_of_ble_eq_true rfl, Nat.le_of_ble_eq_true rfl⟩, ht _ q706, ht _ qs33⟩ (z_preV hK (va_recv hK.1 hM.1 (ci := 10) (q0 := 0) rfl rfl)) rfl rfl hl.1 rfl (lv_room (Nat.le_of_ble_eq_true rfl)) d_M_wrap_167 ⟨Nat.le_refl _, Nat.le_refl _⟩) hS (fun _ h9 => h9) (fun v41 H locs hv40 hz42 hf43 hS => ?_)
                    obtain ⟨rfl, Wk, hW, hM⟩ := hv40
                    refine W.eq (g2 := F0 m 170 ls []) rfl ?_
                    refine lv_aload_n hx hb d_M_wrap_170 rfl (lv_at hl 2 rfl) ?_
                    refine lv_iload_n hx hb d_M_wrap_171 rfl (lv_at hl 3 rfl) ?_
                    refine lv_iload_n hx hb d_M_wrap_172 rfl (lv_at hl 4 rfl) ?_
                    have ebs : ([] : List Nat) ++ [5 % 256] ++ [5 % 256] ++ (cs v12) = cs (.pow (.sub (.var 1) v12) kt) := rfl
                    rw [ebs] at hW hM
                    refine z_callQ (va_runV (C := "ValueTreesModel") (As := [.int (nI j), .int (nI kt)]) (rest := []) ⟨hx, hb, hml, hown, hts⟩ (c_M_keep l D dT _ mm wd lf rt tc ty F sz Wk (cs (.pow (.sub (.var 1) v12) kt)) dg dc sh hM hW j kt hj (by rw [← ebs]; simp only [List.length_append, List.length_cons, List.length_nil, size4_len]; omega)) ⟨callB_of 2 hts (gI gd_up gd_c q647) rfl rfl rfl (ht _ q10) (ht _ q644) hd_M_keep ⟨Nat.le_of_ble_eq_true rfl, Nat.le_of_ble_eq_true rfl⟩, ht _ q646, ht _ qs25⟩ (z_preV hK (va_recv hK.1 hM.1 (ci := 10) (q0 := 0) rfl rfl)) rfl rfl hl.1 rfl (lv_room (Nat.le_of_ble_eq_true rfl)) d_M_wrap_173 ⟨Nat.le_refl _, Nat.le_refl _⟩) hS (fun _ h9 => h9) (fun v45 H locs hv44 hz46 hf47 hS => ?_)
                    rcases hv44 with ⟨hk1, rfl, hM⟩ | ⟨hk1, rfl, hM⟩
                    · refine W.eq (g2 := F0 m 176 ls [.int (-2)]) rfl ?_
                      refine z_iretQ hx hb hr hlocks d_M_wrap_176 hS (Nat.le_refl _) (Nat.le_refl _) ?_
                      have eo := show o_wrap tb tc RV (nI kt) 0 (nI j13) = some (.pow (.sub (.var 1) v12) kt) from (by unfold o_wrap; rw [tN_nI hkt htc, rgs_nI hj13, hV12]; simp [hword, nc23])
                      rw [eo]
                      exact kO_done ⟨_, _, _, _, _, hW.1, Or.inl ⟨hk1, rfl, hM⟩⟩ hO hT hR hj hkt ⟨rfl, rfl, rfl, Or.inr (Or.inl ⟨hword, rfl, by rw [← nc23]; exact hw12⟩)⟩
                    · refine W.eq (g2 := F0 m 176 ls [.int (nI (cs (.pow (.sub (.var 1) v12) kt)).length)]) rfl ?_
                      refine z_iretQ hx hb hr hlocks d_M_wrap_176 hS (Nat.le_refl _) (Nat.le_refl _) ?_
                      have eo := show o_wrap tb tc RV (nI kt) 0 (nI j13) = some (.pow (.sub (.var 1) v12) kt) from (by unfold o_wrap; rw [tN_nI hkt htc, rgs_nI hj13, hV12]; simp [hword, nc23])
                      rw [eo]
                      exact kO_done ⟨_, _, _, _, _, hW.1, Or.inr ⟨hk1, rfl, hM⟩⟩ hO hT hR hj hkt ⟨rfl, rfl, rfl, Or.inr (Or.inl ⟨hword, rfl, by rw [← nc23]; exact hw12⟩)⟩
                  · have nc23 : ¬ (vty v12) = (lt_ tb kt) := fun h9 => c23 ((nI_eq (a := (vty v12)) (b := (lt_ tb kt)) (by omega) (by omega)).mpr h9)
                    refine lv_iconst (v := (-1)) hx hb d_M_wrap_110 (by decide) ?_
                    refine z_iretQ hx hb hr hlocks d_M_wrap_111 hS (Nat.le_refl _) (Nat.le_refl _) ?_
                    have eo : o_wrap tb tc RV (nI kt) 0 (nI j13) = none := by unfold o_wrap; rw [tN_nI hkt htc, rgs_nI hj13, hV12]; simp [nc18, nc19, nc23]
                    rw [eo]
                    exact ⟨rfl, _, _, _, _, _, _, _, _, _, _, _, hM, hO, hT, hR, hWk⟩
              · have nc18 : (tW (tb kt)) = 10 := (nI_eq (a := (tW (tb kt))) (b := 10) (by omega) (by omega)).mp c18
                refine lv_iload_n hx hb d_M_wrap_50 rfl (lv_at hl 4 rfl) ?_
                refine lv_if_ne (tgt := 58) hx hb d_M_wrap_51 (by decide) (fun c48 => absurd c48 (by decide)) (fun _ => ?_)
                have hword : tW (tb kt) = 10 := nc18
                refine lv_iconst (v := 1) hx hb d_M_wrap_54 (by decide) ?_
                refine lv_goto (tgt := 74) hx hb d_M_wrap_55 (by decide) ?_
                refine lv_istore (lv' := [(6, .int 1), (5, .int (nI (tW (tb kt)))), (0, .ref (mm 0)), (1, .int (nI j)), (2, .int (nI kt)), (3, .int 0), (4, .int (nI j13))]) hx hb d_M_wrap_74 hl (by decide) rfl (fun ls hl => ?_)
                refine lv_iload hx hb d_M_wrap_76 (lv_at hl 0 rfl) ?_
                refine lv_if_eq (tgt := 110) hx hb d_M_wrap_78 (by decide) (fun c49 => absurd c49 (by decide)) (fun _ => ?_)
                refine lv_aload_n hx hb d_M_wrap_81 rfl (lv_at hl 2 rfl) ?_
                refine va_get (D := D) (ci := 10) (v := .ref (mm 4)) (C := "ValueTreesModel") (T := T_M) (N := 12) hx hb ht in_M hown hK.1 hM.1 0 rfl rfl 4 (by decide) (ht _ q543) (fun _ h9 => h9) rfl d_M_wrap_82 ?_
                refine lv_iload hx hb d_M_wrap_85 (lv_at hl 6 rfl) ?_
                refine z_iald hx hb hK (hM.1 4 _ rfl) j13 rfl (by omega) (by decide) d_M_wrap_87 ?_
                rw [et12]
                refine lv_iload_n hx hb d_M_wrap_88 rfl (lv_at hl 5 rfl) ?_
                refine lv_if_ne (tgt := 101) hx hb d_M_wrap_89 (by decide) (fun c50 => absurd c50 (by decide)) (fun _ => ?_)
                obtain ⟨hLk, hltk, hlpk⟩ := tl_some hO hkt (by omega)
                have elk : lf kt = nI (lt_ tb kt) := by rw [(hT _ hkt).2.1, hLk]; rfl
                refine lv_aload_n hx hb d_M_wrap_92 rfl (lv_at hl 2 rfl) ?_
                refine va_get (D := D) (ci := 10) (v := .ref (mm 2)) (C := "ValueTreesModel") (T := T_M) (N := 12) hx hb ht in_M hown hK.1 hM.1 0 rfl rfl 1 (by decide) (ht _ q540) (fun _ h9 => h9) rfl d_M_wrap_93 ?_
                refine lv_iload_n hx hb d_M_wrap_96 rfl (lv_at hl 4 rfl) ?_
                refine z_iald hx hb hK (hM.1 2 _ rfl) kt rfl (by omega) (by decide) d_M_wrap_97 ?_
                rw [elk]
                refine lv_goto (tgt := 107) hx hb d_M_wrap_98 (by decide) ?_
                refine lv_icmp_eq (tgt := 112) hx hb d_M_wrap_107 (by decide) (fun c51 => ?_) (fun c51 => ?_)
                · have nc51 : (vty v12) = (lt_ tb kt) := (nI_eq (a := (vty v12)) (b := (lt_ tb kt)) (by omega) (by omega)).mp c51
                  refine lv_aload_n hx hb d_M_wrap_112 rfl (lv_at hl 2 rfl) ?_
                  refine lv_iconst (v := 0) hx hb d_M_wrap_113 (by decide) ?_
                  refine m_put_wz hx hb ht hown hK hM hS (ht _ q547) 0 rfl d_M_wrap_114 (fun H locs hM hS => ?_)
                  have hM : mAt D dT mm wd lf rt tc ty F sz Wk 0 dg dc sh H := hM
                  have hW : wAt Wk ([] : List Nat) := wAt_nil hWk
                  have hM : mAt D dT mm wd lf rt tc ty F sz Wk (([] : List Nat).length) dg dc sh H := hM
                  refine lv_aload_n hx hb d_M_wrap_117 rfl (lv_at hl 2 rfl) ?_
                  refine lv_iconst (v := 5) hx hb d_M_wrap_118 (by decide) ?_
                  refine z_callQ (va_runV (C := "ValueTreesModel") (As := [.int 5]) (rest := []) ⟨hx, hb, hml, hown, hts⟩ (c_M_lay l D dT _ mm wd lf rt tc ty F sz Wk ([] : List Nat) dg dc sh hM hW 5 (by (try simp only [List.length_append, List.length_cons, List.length_nil, size4_len]); omega)) ⟨callB_of 1 hts (gI gd_up gd_c q635) rfl rfl rfl (ht _ q10) (ht _ q632) hd_M_lay ⟨Nat.le_of_ble_eq_true rfl, Nat.le_of_ble_eq_true rfl⟩, ht _ q634, ht _ qs22⟩ (z_preV hK (va_recv hK.1 hM.1 (ci := 10) (q0 := 0) rfl rfl)) rfl rfl hl.1 rfl (lv_room (Nat.le_of_ble_eq_true rfl)) d_M_wrap_119 ⟨Nat.le_refl _, Nat.le_refl _⟩) hS (fun _ h9 => h9) (fun v53 H locs hv52 hz54 hf55 hS => ?_)
                  obtain ⟨rfl, Wk, hW, hWk56, hM⟩ := hv52
                  refine W.eq (g2 := F0 m 122 ls []) rfl ?_
                  refine lv_aload_n hx hb d_M_wrap_122 rfl (lv_at hl 2 rfl) ?_
                  refine lv_iload hx hb d_M_wrap_123 (lv_at hl 1 rfl) ?_
                  refine lv_bipush (v := 10) hx hb d_M_wrap_125 (by decide) ?_
                  refine lv_icmp_ne (tgt := 135) hx hb d_M_wrap_127 (by decide) (fun c57 => absurd ((nI_eq (a := (tW (tb kt))) (b := 10) (by omega) (by omega)).mpr (by omega)) c57) (fun c57 => ?_)
                  refine lv_bipush (v := 9) hx hb d_M_wrap_130 (by decide) ?_
                  refine lv_goto (tgt := 145) hx hb d_M_wrap_132 (by decide) ?_
                  refine z_callQ (va_runV (C := "ValueTreesModel") (As := [.int 9]) (rest := []) ⟨hx, hb, hml, hown, hts⟩ (c_M_lay l D dT _ mm wd lf rt tc ty F sz Wk (([] : List Nat) ++ [5 % 256]) dg dc sh hM hW 9 (by (try simp only [List.length_append, List.length_cons, List.length_nil, size4_len]); omega)) ⟨callB_of 1 hts (gI gd_up gd_c q635) rfl rfl rfl (ht _ q10) (ht _ q632) hd_M_lay ⟨Nat.le_of_ble_eq_true rfl, Nat.le_of_ble_eq_true rfl⟩, ht _ q634, ht _ qs22⟩ (z_preV hK (va_recv hK.1 hM.1 (ci := 10) (q0 := 0) rfl rfl)) rfl rfl hl.1 rfl (lv_room (Nat.le_of_ble_eq_true rfl)) d_M_wrap_145 ⟨Nat.le_refl _, Nat.le_refl _⟩) hS (fun _ h9 => h9) (fun v59 H locs hv58 hz60 hf61 hS => ?_)
                  obtain ⟨rfl, Wk, hW, hWk62, hM⟩ := hv58
                  refine W.eq (g2 := F0 m 148 ls []) rfl ?_
                  refine lv_aload_n hx hb d_M_wrap_148 rfl (lv_at hl 2 rfl) ?_
                  refine lv_iload hx hb d_M_wrap_149 (lv_at hl 6 rfl) ?_
                  refine z_callR (va_runS (As := [.int (nI j13)]) (rest := [.ref (mm 0)]) ⟨hx, hb, hml, hown, hts⟩ (c_M_base l D dT _ (nI j13)) ⟨callB_of 1 hts (gI gd_up gd_c q650) rfl rfl rfl (ht _ q10) (ht _ q648) hd_M_base ⟨Nat.le_of_ble_eq_true rfl, Nat.le_of_ble_eq_true rfl⟩, ht _ q649⟩ (z_preS hK) rfl rfl hl.1 rfl (lv_room (Nat.le_of_ble_eq_true rfl)) d_M_wrap_151 ⟨Nat.zero_le _, Nat.zero_le _⟩) (fun v64 hv63 => ?_)
                  subst hv63
                  rw [show (160 * nI j13 : Int32) = nI (160 * j13) from pk_mul 160 j13]
                  refine lv_iload hx hb d_M_wrap_154 (lv_at hl 6 rfl) ?_
                  refine z_callR (va_runS (As := [.int (nI j13)]) (rest := [.int (nI (160 * j13)), .ref (mm 0)]) ⟨hx, hb, hml, hown, hts⟩ (c_M_base l D dT _ (nI j13)) ⟨callB_of 1 hts (gI gd_up gd_c q650) rfl rfl rfl (ht _ q10) (ht _ q648) hd_M_base ⟨Nat.le_of_ble_eq_true rfl, Nat.le_of_ble_eq_true rfl⟩, ht _ q649⟩ (z_preS hK) rfl rfl hl.1 rfl (lv_room (Nat.le_of_ble_eq_true rfl)) d_M_wrap_156 ⟨Nat.zero_le _, Nat.zero_le _⟩) (fun v66 hv65 => ?_)
                  subst hv65
                  rw [show (160 * nI j13 : Int32) = nI (160 * j13) from pk_mul 160 j13]
                  refine lv_aload_n hx hb d_M_wrap_159 rfl (lv_at hl 2 rfl) ?_
                  refine va_get (D := D) (ci := 10) (v := .ref (mm 6)) (C := "ValueTreesModel") (T := T_M) (N := 12) hx hb ht in_M hown hK.1 hM.1 0 rfl rfl 6 (by decide) (ht _ q545) (fun _ h9 => h9) rfl d_M_wrap_160 ?_
                  refine lv_iload hx hb d_M_wrap_163 (lv_at hl 6 rfl) ?_
                  refine z_iald hx hb hK (hM.1 6 _ rfl) j13 rfl (by omega) (by decide) d_M_wrap_165 ?_
                  rw [es12]
                  refine lv_iadd hx hb d_M_wrap_166 ?_
                  rw [show (((nI (160 * j13)) + (nI (cs v12).length)) : Int32) = nI ((160 * j13) + ((cs v12).length)) from nI_add (160 * j13) ((cs v12).length)]
                  refine z_callQ (va_runV (C := "ValueTreesModel") (As := [.int (nI (160 * j13)), .int (nI ((160 * j13) + ((cs v12).length)))]) (rest := []) ⟨hx, hb, hml, hown, hts⟩ (c_M_putFrom l D dT _ mm wd lf rt tc ty F sz Wk (([] : List Nat) ++ [5 % 256] ++ [9 % 256]) dg dc sh hM hW hF (160 * j13) (cs v12) hf12 (by omega) (by (try simp only [List.length_append, List.length_cons, List.length_nil, size4_len]); omega)) ⟨callB_of 2 hts (gI gd_up gd_c q707) rfl rfl rfl (ht _ q10) (ht _ q704) hd_M_putFrom ⟨Nat.le_of_ble_eq_true rfl, Nat.le_of_ble_eq_true rfl⟩, ht _ q706, ht _ qs33⟩ (z_preV hK (va_recv hK.1 hM.1 (ci := 10) (q0 := 0) rfl rfl)) rfl rfl hl.1 rfl (lv_room (Nat.le_of_ble_eq_true rfl)) d_M_wrap_167 ⟨Nat.le_refl _, Nat.le_refl _⟩) hS (fun _ h9 => h9) (fun v68 H locs hv67 hz69 hf70 hS => ?_)
                  obtain ⟨rfl, Wk, hW, hM⟩ := hv67
                  refine W.eq (g2 := F0 m 170 ls []) rfl ?_
                  refine lv_aload_n hx hb d_M_wrap_170 rfl (lv_at hl 2 rfl) ?_
                  refine lv_iload_n hx hb d_M_wrap_171 rfl (lv_at hl 3 rfl) ?_
                  refine lv_iload_n hx hb d_M_wrap_172 rfl (lv_at hl 4 rfl) ?_
                  have ebs : ([] : List Nat) ++ [5 % 256] ++ [9 % 256] ++ (cs v12) = cs (.pow (.sub (.var 3) v12) kt) := rfl
                  rw [ebs] at hW hM
                  refine z_callQ (va_runV (C := "ValueTreesModel") (As := [.int (nI j), .int (nI kt)]) (rest := []) ⟨hx, hb, hml, hown, hts⟩ (c_M_keep l D dT _ mm wd lf rt tc ty F sz Wk (cs (.pow (.sub (.var 3) v12) kt)) dg dc sh hM hW j kt hj (by rw [← ebs]; simp only [List.length_append, List.length_cons, List.length_nil, size4_len]; omega)) ⟨callB_of 2 hts (gI gd_up gd_c q647) rfl rfl rfl (ht _ q10) (ht _ q644) hd_M_keep ⟨Nat.le_of_ble_eq_true rfl, Nat.le_of_ble_eq_true rfl⟩, ht _ q646, ht _ qs25⟩ (z_preV hK (va_recv hK.1 hM.1 (ci := 10) (q0 := 0) rfl rfl)) rfl rfl hl.1 rfl (lv_room (Nat.le_of_ble_eq_true rfl)) d_M_wrap_173 ⟨Nat.le_refl _, Nat.le_refl _⟩) hS (fun _ h9 => h9) (fun v72 H locs hv71 hz73 hf74 hS => ?_)
                  rcases hv71 with ⟨hk1, rfl, hM⟩ | ⟨hk1, rfl, hM⟩
                  · refine W.eq (g2 := F0 m 176 ls [.int (-2)]) rfl ?_
                    refine z_iretQ hx hb hr hlocks d_M_wrap_176 hS (Nat.le_refl _) (Nat.le_refl _) ?_
                    have eo := show o_wrap tb tc RV (nI kt) 0 (nI j13) = some (.pow (.sub (.var 3) v12) kt) from (by unfold o_wrap; rw [tN_nI hkt htc, rgs_nI hj13, hV12]; simp [hword, nc51])
                    rw [eo]
                    exact kO_done ⟨_, _, _, _, _, hW.1, Or.inl ⟨hk1, rfl, hM⟩⟩ hO hT hR hj hkt ⟨rfl, rfl, rfl, Or.inl ⟨hword, rfl, by rw [← nc51]; exact hw12⟩⟩
                  · refine W.eq (g2 := F0 m 176 ls [.int (nI (cs (.pow (.sub (.var 3) v12) kt)).length)]) rfl ?_
                    refine z_iretQ hx hb hr hlocks d_M_wrap_176 hS (Nat.le_refl _) (Nat.le_refl _) ?_
                    have eo := show o_wrap tb tc RV (nI kt) 0 (nI j13) = some (.pow (.sub (.var 3) v12) kt) from (by unfold o_wrap; rw [tN_nI hkt htc, rgs_nI hj13, hV12]; simp [hword, nc51])
                    rw [eo]
                    exact kO_done ⟨_, _, _, _, _, hW.1, Or.inr ⟨hk1, rfl, hM⟩⟩ hO hT hR hj hkt ⟨rfl, rfl, rfl, Or.inl ⟨hword, rfl, by rw [← nc51]; exact hw12⟩⟩
                · have nc51 : ¬ (vty v12) = (lt_ tb kt) := fun h9 => c51 ((nI_eq (a := (vty v12)) (b := (lt_ tb kt)) (by omega) (by omega)).mpr h9)
                  refine lv_iconst (v := (-1)) hx hb d_M_wrap_110 (by decide) ?_
                  refine z_iretQ hx hb hr hlocks d_M_wrap_111 hS (Nat.le_refl _) (Nat.le_refl _) ?_
                  have eo : o_wrap tb tc RV (nI kt) 0 (nI j13) = none := by unfold o_wrap; rw [tN_nI hkt htc, rgs_nI hj13, hV12]; simp [nc18, nc51]
                  rw [eo]
                  exact ⟨rfl, _, _, _, _, _, _, _, _, _, _, _, hM, hO, hT, hR, hWk⟩
            · refine lv_aload_n hx hb d_M_wrap_35 rfl (lv_at hl 0 rfl) ?_
              refine va_get (D := D) (ci := 10) (v := .ref (mm 1)) (C := "ValueTreesModel") (T := T_M) (N := 12) hx hb ht in_M hown hK.1 hM.1 0 rfl rfl 0 (by decide) (ht _ q539) (fun _ h9 => h9) rfl d_M_wrap_36 ?_
              refine lv_iload_n hx hb d_M_wrap_39 rfl (lv_at hl 2 rfl) ?_
              refine z_iald hx hb hK (hM.1 1 _ rfl) kt rfl (by omega) (by decide) d_M_wrap_40 ?_
              rw [ekt1]
              refine lv_istore (lv' := [(5, .int (nI (tW (tb kt)))), (0, .ref (mm 0)), (1, .int (nI j)), (2, .int (nI kt)), (3, .int 1), (4, .int (nI j13))]) hx hb d_M_wrap_41 hl (by decide) rfl (fun ls hl => ?_)
              refine lv_iload hx hb d_M_wrap_43 (lv_at hl 0 rfl) ?_
              refine lv_bipush (v := 10) hx hb d_M_wrap_45 (by decide) ?_
              refine lv_icmp_ne (tgt := 62) hx hb d_M_wrap_47 (by decide) (fun c75 => ?_) (fun c75 => ?_)
              · have nc75 : ¬ (tW (tb kt)) = 10 := fun h9 => c75 ((nI_eq (a := (tW (tb kt))) (b := 10) (by omega) (by omega)).mpr h9)
                refine lv_iload hx hb d_M_wrap_62 (lv_at hl 0 rfl) ?_
                refine lv_bipush (v := 14) hx hb d_M_wrap_64 (by decide) ?_
                refine lv_icmp_ne (tgt := 73) hx hb d_M_wrap_66 (by decide) (fun c76 => ?_) (fun c76 => ?_)
                · have nc76 : ¬ (tW (tb kt)) = 14 := fun h9 => c76 ((nI_eq (a := (tW (tb kt))) (b := 14) (by omega) (by omega)).mpr h9)
                  refine lv_iconst (v := 0) hx hb d_M_wrap_73 (by decide) ?_
                  refine lv_istore (lv' := [(6, .int 0), (5, .int (nI (tW (tb kt)))), (0, .ref (mm 0)), (1, .int (nI j)), (2, .int (nI kt)), (3, .int 1), (4, .int (nI j13))]) hx hb d_M_wrap_74 hl (by decide) rfl (fun ls hl => ?_)
                  refine lv_iload hx hb d_M_wrap_76 (lv_at hl 0 rfl) ?_
                  refine lv_if_eq (tgt := 110) hx hb d_M_wrap_78 (by decide) (fun _ => ?_) (fun c77 => absurd c77 (by decide))
                  refine lv_iconst (v := (-1)) hx hb d_M_wrap_110 (by decide) ?_
                  refine z_iretQ hx hb hr hlocks d_M_wrap_111 hS (Nat.le_refl _) (Nat.le_refl _) ?_
                  have eo : o_wrap tb tc RV (nI kt) 1 (nI j13) = none := by unfold o_wrap; rw [tN_nI hkt htc, rgs_nI hj13, hV12]; simp [nc75, nc76]
                  rw [eo]
                  exact ⟨rfl, _, _, _, _, _, _, _, _, _, _, _, hM, hO, hT, hR, hWk⟩
                · have nc76 : (tW (tb kt)) = 14 := (nI_eq (a := (tW (tb kt))) (b := 14) (by omega) (by omega)).mp c76
                  have hword : tW (tb kt) = 14 := nc76
                  refine lv_iconst (v := 1) hx hb d_M_wrap_69 (by decide) ?_
                  refine lv_goto (tgt := 74) hx hb d_M_wrap_70 (by decide) ?_
                  refine lv_istore (lv' := [(6, .int 1), (5, .int (nI (tW (tb kt)))), (0, .ref (mm 0)), (1, .int (nI j)), (2, .int (nI kt)), (3, .int 1), (4, .int (nI j13))]) hx hb d_M_wrap_74 hl (by decide) rfl (fun ls hl => ?_)
                  refine lv_iload hx hb d_M_wrap_76 (lv_at hl 0 rfl) ?_
                  refine lv_if_eq (tgt := 110) hx hb d_M_wrap_78 (by decide) (fun c78 => absurd c78 (by decide)) (fun _ => ?_)
                  refine lv_aload_n hx hb d_M_wrap_81 rfl (lv_at hl 2 rfl) ?_
                  refine va_get (D := D) (ci := 10) (v := .ref (mm 4)) (C := "ValueTreesModel") (T := T_M) (N := 12) hx hb ht in_M hown hK.1 hM.1 0 rfl rfl 4 (by decide) (ht _ q543) (fun _ h9 => h9) rfl d_M_wrap_82 ?_
                  refine lv_iload hx hb d_M_wrap_85 (lv_at hl 6 rfl) ?_
                  refine z_iald hx hb hK (hM.1 4 _ rfl) j13 rfl (by omega) (by decide) d_M_wrap_87 ?_
                  rw [et12]
                  refine lv_iload_n hx hb d_M_wrap_88 rfl (lv_at hl 5 rfl) ?_
                  refine lv_if_ne (tgt := 101) hx hb d_M_wrap_89 (by decide) (fun _ => ?_) (fun c79 => absurd c79 (by decide))
                  obtain ⟨hRk, hrtk, hrpk⟩ := tr_some hO hkt (by omega)
                  have erk : rt kt = nI (rt_ tb kt) := by rw [(hT _ hkt).2.2, hRk]; rfl
                  refine lv_aload_n hx hb d_M_wrap_101 rfl (lv_at hl 2 rfl) ?_
                  refine va_get (D := D) (ci := 10) (v := .ref (mm 3)) (C := "ValueTreesModel") (T := T_M) (N := 12) hx hb ht in_M hown hK.1 hM.1 0 rfl rfl 2 (by decide) (ht _ q541) (fun _ h9 => h9) rfl d_M_wrap_102 ?_
                  refine lv_iload_n hx hb d_M_wrap_105 rfl (lv_at hl 4 rfl) ?_
                  refine z_iald hx hb hK (hM.1 3 _ rfl) kt rfl (by omega) (by decide) d_M_wrap_106 ?_
                  rw [erk]
                  refine lv_icmp_eq (tgt := 112) hx hb d_M_wrap_107 (by decide) (fun c80 => ?_) (fun c80 => ?_)
                  · have nc80 : (vty v12) = (rt_ tb kt) := (nI_eq (a := (vty v12)) (b := (rt_ tb kt)) (by omega) (by omega)).mp c80
                    refine lv_aload_n hx hb d_M_wrap_112 rfl (lv_at hl 2 rfl) ?_
                    refine lv_iconst (v := 0) hx hb d_M_wrap_113 (by decide) ?_
                    refine m_put_wz hx hb ht hown hK hM hS (ht _ q547) 0 rfl d_M_wrap_114 (fun H locs hM hS => ?_)
                    have hM : mAt D dT mm wd lf rt tc ty F sz Wk 0 dg dc sh H := hM
                    have hW : wAt Wk ([] : List Nat) := wAt_nil hWk
                    have hM : mAt D dT mm wd lf rt tc ty F sz Wk (([] : List Nat).length) dg dc sh H := hM
                    refine lv_aload_n hx hb d_M_wrap_117 rfl (lv_at hl 2 rfl) ?_
                    refine lv_iconst (v := 5) hx hb d_M_wrap_118 (by decide) ?_
                    refine z_callQ (va_runV (C := "ValueTreesModel") (As := [.int 5]) (rest := []) ⟨hx, hb, hml, hown, hts⟩ (c_M_lay l D dT _ mm wd lf rt tc ty F sz Wk ([] : List Nat) dg dc sh hM hW 5 (by (try simp only [List.length_append, List.length_cons, List.length_nil, size4_len]); omega)) ⟨callB_of 1 hts (gI gd_up gd_c q635) rfl rfl rfl (ht _ q10) (ht _ q632) hd_M_lay ⟨Nat.le_of_ble_eq_true rfl, Nat.le_of_ble_eq_true rfl⟩, ht _ q634, ht _ qs22⟩ (z_preV hK (va_recv hK.1 hM.1 (ci := 10) (q0 := 0) rfl rfl)) rfl rfl hl.1 rfl (lv_room (Nat.le_of_ble_eq_true rfl)) d_M_wrap_119 ⟨Nat.le_refl _, Nat.le_refl _⟩) hS (fun _ h9 => h9) (fun v82 H locs hv81 hz83 hf84 hS => ?_)
                    obtain ⟨rfl, Wk, hW, hWk85, hM⟩ := hv81
                    refine W.eq (g2 := F0 m 122 ls []) rfl ?_
                    refine lv_aload_n hx hb d_M_wrap_122 rfl (lv_at hl 2 rfl) ?_
                    refine lv_iload hx hb d_M_wrap_123 (lv_at hl 1 rfl) ?_
                    refine lv_bipush (v := 10) hx hb d_M_wrap_125 (by decide) ?_
                    refine lv_icmp_ne (tgt := 135) hx hb d_M_wrap_127 (by decide) (fun c86 => ?_) (fun c86 => absurd ((nI_eq (a := (tW (tb kt))) (b := 10) (by omega) (by omega)).mp c86) (by omega))
                    refine lv_iload_n hx hb d_M_wrap_135 rfl (lv_at hl 5 rfl) ?_
                    refine lv_if_ne (tgt := 143) hx hb d_M_wrap_136 (by decide) (fun _ => ?_) (fun c87 => absurd c87 (by decide))
                    refine lv_bipush (v := 8) hx hb d_M_wrap_143 (by decide) ?_
                    refine z_callQ (va_runV (C := "ValueTreesModel") (As := [.int 8]) (rest := []) ⟨hx, hb, hml, hown, hts⟩ (c_M_lay l D dT _ mm wd lf rt tc ty F sz Wk (([] : List Nat) ++ [5 % 256]) dg dc sh hM hW 8 (by (try simp only [List.length_append, List.length_cons, List.length_nil, size4_len]); omega)) ⟨callB_of 1 hts (gI gd_up gd_c q635) rfl rfl rfl (ht _ q10) (ht _ q632) hd_M_lay ⟨Nat.le_of_ble_eq_true rfl, Nat.le_of_ble_eq_true rfl⟩, ht _ q634, ht _ qs22⟩ (z_preV hK (va_recv hK.1 hM.1 (ci := 10) (q0 := 0) rfl rfl)) rfl rfl hl.1 rfl (lv_room (Nat.le_of_ble_eq_true rfl)) d_M_wrap_145 ⟨Nat.le_refl _, Nat.le_refl _⟩) hS (fun _ h9 => h9) (fun v89 H locs hv88 hz90 hf91 hS => ?_)
                    obtain ⟨rfl, Wk, hW, hWk92, hM⟩ := hv88
                    refine W.eq (g2 := F0 m 148 ls []) rfl ?_
                    refine lv_aload_n hx hb d_M_wrap_148 rfl (lv_at hl 2 rfl) ?_
                    refine lv_iload hx hb d_M_wrap_149 (lv_at hl 6 rfl) ?_
                    refine z_callR (va_runS (As := [.int (nI j13)]) (rest := [.ref (mm 0)]) ⟨hx, hb, hml, hown, hts⟩ (c_M_base l D dT _ (nI j13)) ⟨callB_of 1 hts (gI gd_up gd_c q650) rfl rfl rfl (ht _ q10) (ht _ q648) hd_M_base ⟨Nat.le_of_ble_eq_true rfl, Nat.le_of_ble_eq_true rfl⟩, ht _ q649⟩ (z_preS hK) rfl rfl hl.1 rfl (lv_room (Nat.le_of_ble_eq_true rfl)) d_M_wrap_151 ⟨Nat.zero_le _, Nat.zero_le _⟩) (fun v94 hv93 => ?_)
                    subst hv93
                    rw [show (160 * nI j13 : Int32) = nI (160 * j13) from pk_mul 160 j13]
                    refine lv_iload hx hb d_M_wrap_154 (lv_at hl 6 rfl) ?_
                    refine z_callR (va_runS (As := [.int (nI j13)]) (rest := [.int (nI (160 * j13)), .ref (mm 0)]) ⟨hx, hb, hml, hown, hts⟩ (c_M_base l D dT _ (nI j13)) ⟨callB_of 1 hts (gI gd_up gd_c q650) rfl rfl rfl (ht _ q10) (ht _ q648) hd_M_base ⟨Nat.le_of_ble_eq_true rfl, Nat.le_of_ble_eq_true rfl⟩, ht _ q649⟩ (z_preS hK) rfl rfl hl.1 rfl (lv_room (Nat.le_of_ble_eq_true rfl)) d_M_wrap_156 ⟨Nat.zero_le _, Nat.zero_le _⟩) (fun v96 hv95 => ?_)
                    subst hv95
                    rw [show (160 * nI j13 : Int32) = nI (160 * j13) from pk_mul 160 j13]
                    refine lv_aload_n hx hb d_M_wrap_159 rfl (lv_at hl 2 rfl) ?_
                    refine va_get (D := D) (ci := 10) (v := .ref (mm 6)) (C := "ValueTreesModel") (T := T_M) (N := 12) hx hb ht in_M hown hK.1 hM.1 0 rfl rfl 6 (by decide) (ht _ q545) (fun _ h9 => h9) rfl d_M_wrap_160 ?_
                    refine lv_iload hx hb d_M_wrap_163 (lv_at hl 6 rfl) ?_
                    refine z_iald hx hb hK (hM.1 6 _ rfl) j13 rfl (by omega) (by decide) d_M_wrap_165 ?_
                    rw [es12]
                    refine lv_iadd hx hb d_M_wrap_166 ?_
                    rw [show (((nI (160 * j13)) + (nI (cs v12).length)) : Int32) = nI ((160 * j13) + ((cs v12).length)) from nI_add (160 * j13) ((cs v12).length)]
                    refine z_callQ (va_runV (C := "ValueTreesModel") (As := [.int (nI (160 * j13)), .int (nI ((160 * j13) + ((cs v12).length)))]) (rest := []) ⟨hx, hb, hml, hown, hts⟩ (c_M_putFrom l D dT _ mm wd lf rt tc ty F sz Wk (([] : List Nat) ++ [5 % 256] ++ [8 % 256]) dg dc sh hM hW hF (160 * j13) (cs v12) hf12 (by omega) (by (try simp only [List.length_append, List.length_cons, List.length_nil, size4_len]); omega)) ⟨callB_of 2 hts (gI gd_up gd_c q707) rfl rfl rfl (ht _ q10) (ht _ q704) hd_M_putFrom ⟨Nat.le_of_ble_eq_true rfl, Nat.le_of_ble_eq_true rfl⟩, ht _ q706, ht _ qs33⟩ (z_preV hK (va_recv hK.1 hM.1 (ci := 10) (q0 := 0) rfl rfl)) rfl rfl hl.1 rfl (lv_room (Nat.le_of_ble_eq_true rfl)) d_M_wrap_167 ⟨Nat.le_refl _, Nat.le_refl _⟩) hS (fun _ h9 => h9) (fun v98 H locs hv97 hz99 hf100 hS => ?_)
                    obtain ⟨rfl, Wk, hW, hM⟩ := hv97
                    refine W.eq (g2 := F0 m 170 ls []) rfl ?_
                    refine lv_aload_n hx hb d_M_wrap_170 rfl (lv_at hl 2 rfl) ?_
                    refine lv_iload_n hx hb d_M_wrap_171 rfl (lv_at hl 3 rfl) ?_
                    refine lv_iload_n hx hb d_M_wrap_172 rfl (lv_at hl 4 rfl) ?_
                    have ebs : ([] : List Nat) ++ [5 % 256] ++ [8 % 256] ++ (cs v12) = cs (.pow (.sub (.var 2) v12) kt) := rfl
                    rw [ebs] at hW hM
                    refine z_callQ (va_runV (C := "ValueTreesModel") (As := [.int (nI j), .int (nI kt)]) (rest := []) ⟨hx, hb, hml, hown, hts⟩ (c_M_keep l D dT _ mm wd lf rt tc ty F sz Wk (cs (.pow (.sub (.var 2) v12) kt)) dg dc sh hM hW j kt hj (by rw [← ebs]; simp only [List.length_append, List.length_cons, List.length_nil, size4_len]; omega)) ⟨callB_of 2 hts (gI gd_up gd_c q647) rfl rfl rfl (ht _ q10) (ht _ q644) hd_M_keep ⟨Nat.le_of_ble_eq_true rfl, Nat.le_of_ble_eq_true rfl⟩, ht _ q646, ht _ qs25⟩ (z_preV hK (va_recv hK.1 hM.1 (ci := 10) (q0 := 0) rfl rfl)) rfl rfl hl.1 rfl (lv_room (Nat.le_of_ble_eq_true rfl)) d_M_wrap_173 ⟨Nat.le_refl _, Nat.le_refl _⟩) hS (fun _ h9 => h9) (fun v102 H locs hv101 hz103 hf104 hS => ?_)
                    rcases hv101 with ⟨hk1, rfl, hM⟩ | ⟨hk1, rfl, hM⟩
                    · refine W.eq (g2 := F0 m 176 ls [.int (-2)]) rfl ?_
                      refine z_iretQ hx hb hr hlocks d_M_wrap_176 hS (Nat.le_refl _) (Nat.le_refl _) ?_
                      have eo := show o_wrap tb tc RV (nI kt) 1 (nI j13) = some (.pow (.sub (.var 2) v12) kt) from (by unfold o_wrap; rw [tN_nI hkt htc, rgs_nI hj13, hV12]; simp [hword, nc80])
                      rw [eo]
                      exact kO_done ⟨_, _, _, _, _, hW.1, Or.inl ⟨hk1, rfl, hM⟩⟩ hO hT hR hj hkt ⟨rfl, rfl, rfl, Or.inr (Or.inr ⟨hword, rfl, by rw [← nc80]; exact hw12⟩)⟩
                    · refine W.eq (g2 := F0 m 176 ls [.int (nI (cs (.pow (.sub (.var 2) v12) kt)).length)]) rfl ?_
                      refine z_iretQ hx hb hr hlocks d_M_wrap_176 hS (Nat.le_refl _) (Nat.le_refl _) ?_
                      have eo := show o_wrap tb tc RV (nI kt) 1 (nI j13) = some (.pow (.sub (.var 2) v12) kt) from (by unfold o_wrap; rw [tN_nI hkt htc, rgs_nI hj13, hV12]; simp [hword, nc80])
                      rw [eo]
                      exact kO_done ⟨_, _, _, _, _, hW.1, Or.inr ⟨hk1, rfl, hM⟩⟩ hO hT hR hj hkt ⟨rfl, rfl, rfl, Or.inr (Or.inr ⟨hword, rfl, by rw [← nc80]; exact hw12⟩)⟩
                  · have nc80 : ¬ (vty v12) = (rt_ tb kt) := fun h9 => c80 ((nI_eq (a := (vty v12)) (b := (rt_ tb kt)) (by omega) (by omega)).mpr h9)
                    refine lv_iconst (v := (-1)) hx hb d_M_wrap_110 (by decide) ?_
                    refine z_iretQ hx hb hr hlocks d_M_wrap_111 hS (Nat.le_refl _) (Nat.le_refl _) ?_
                    have eo : o_wrap tb tc RV (nI kt) 1 (nI j13) = none := by unfold o_wrap; rw [tN_nI hkt htc, rgs_nI hj13, hV12]; simp [nc75, nc76, nc80]
                    rw [eo]
                    exact ⟨rfl, _, _, _, _, _, _, _, _, _, _, _, hM, hO, hT, hR, hWk⟩
              · have nc75 : (tW (tb kt)) = 10 := (nI_eq (a := (tW (tb kt))) (b := 10) (by omega) (by omega)).mp c75
                refine lv_iload_n hx hb d_M_wrap_50 rfl (lv_at hl 4 rfl) ?_
                refine lv_if_ne (tgt := 58) hx hb d_M_wrap_51 (by decide) (fun _ => ?_) (fun c105 => absurd c105 (by decide))
                refine lv_iconst (v := 0) hx hb d_M_wrap_58 (by decide) ?_
                refine lv_goto (tgt := 74) hx hb d_M_wrap_59 (by decide) ?_
                refine lv_istore (lv' := [(6, .int 0), (5, .int (nI (tW (tb kt)))), (0, .ref (mm 0)), (1, .int (nI j)), (2, .int (nI kt)), (3, .int 1), (4, .int (nI j13))]) hx hb d_M_wrap_74 hl (by decide) rfl (fun ls hl => ?_)
                refine lv_iload hx hb d_M_wrap_76 (lv_at hl 0 rfl) ?_
                refine lv_if_eq (tgt := 110) hx hb d_M_wrap_78 (by decide) (fun _ => ?_) (fun c106 => absurd c106 (by decide))
                refine lv_iconst (v := (-1)) hx hb d_M_wrap_110 (by decide) ?_
                refine z_iretQ hx hb hr hlocks d_M_wrap_111 hS (Nat.le_refl _) (Nat.le_refl _) ?_
                have eo : o_wrap tb tc RV (nI kt) 1 (nI j13) = none := by unfold o_wrap; rw [tN_nI hkt htc, rgs_nI hj13, hV12]; simp [nc75]
                rw [eo]
                exact ⟨rfl, _, _, _, _, _, _, _, _, _, _, _, hM, hO, hT, hR, hWk⟩
          · refine lv_iconst (v := (-1)) hx hb d_M_wrap_33 (by decide) ?_
            refine z_iretQ hx hb hr hlocks d_M_wrap_34 hS (Nat.le_refl _) (Nat.le_refl _) ?_
            have eo : o_wrap tb tc RV (nI kt) side (nI j13) = none := wrap_no (n01 (Or.inr (Int32.not_le.mp c17)))
            rw [eo]
            exact ⟨rfl, _, _, _, _, _, _, _, _, _, _, _, hM, hO, hT, hR, hWk⟩
    · rw [if_neg hq7] at hv5
      subst hv5
      refine lv_if_eq (tgt := 33) hx hb d_M_wrap_12 (by decide) (fun _ => ?_) (fun c107 => absurd c107 (by decide))
      refine lv_iconst (v := (-1)) hx hb d_M_wrap_33 (by decide) ?_
      refine z_iretQ hx hb hr hlocks d_M_wrap_34 hS (Nat.le_refl _) (Nat.le_refl _) ?_
      have eo : o_wrap tb tc RV t side f = none := by unfold o_wrap; rw [tN_none hq7]
      rw [eo]
      exact ⟨rfl, _, _, _, _, _, _, _, _, _, _, _, hM, hO, hT, hR, hWk⟩
  · rw [if_neg hq3] at hv1
    subst hv1
    refine lv_if_eq (tgt := 33) hx hb d_M_wrap_4 (by decide) (fun _ => ?_) (fun c108 => absurd c108 (by decide))
    refine lv_iconst (v := (-1)) hx hb d_M_wrap_33 (by decide) ?_
    refine z_iretQ hx hb hr hlocks d_M_wrap_34 hS (Nat.le_refl _) (Nat.le_refl _) ?_
    rw [kp_out hq3]
    exact ⟨rfl, _, _, _, _, _, _, _, _, _, _, _, hM, hO, hT, hR, hWk⟩
theorem list_of {tb : Nat → TR} {v : VT} {t : Nat} (h : wty tb v 0 t) (hw : tW (tb t) = 11) : ∃ c, v = .pow c t ∧ wty tb c 1 t ∧ cs v = 2 :: (size4 (cs c).length ++ cs c) ∧ ((∃ k, c = .intCast k) ∨ ∃ x y, c = .mul x y ∧ wty tb x 0 (lt_ tb t) ∧ wty tb y 1 t) := by
  obtain ⟨c, rfl, hc⟩ := wty_pow h
  cases c with
  | intCast k => exact ⟨_, rfl, hc, rfl, Or.inl ⟨k, rfl⟩⟩
  | mul a b =>
    refine ⟨_, rfl, hc, rfl, Or.inr ⟨a, b, rfl, ?_⟩⟩
    rcases hc with ⟨-, -, h1, h2⟩ | ⟨h1, -⟩ | ⟨h1, -⟩
    · exact ⟨h1, h2⟩
    · exact absurd h1 (by decide)
    · exact absurd h1 (by decide)
  | pow a b => exact absurd hc.1 (by decide)
  | _ => simp only [wty] at hc; omega
theorem w11_core {tb : Nat → TR} {c : VT} {t : Nat} (h : wty tb c 1 t) (hw : tW (tb t) = 11) : cs (.pow c t) = 2 :: (size4 (cs c).length ++ cs c) := by
  obtain ⟨c9, e, -, h9, -⟩ := list_of (tb := tb) (v := .pow c t) ⟨rfl, rfl, h⟩ hw
  cases e
  exact h9
abbrev b_M_cons : ByteArray := prog_12_method_39_code
abbrev y_M_cons : MethodName := ⟨"ValueTreesModel", "cons", "(III)I"⟩
abbrev w_M_cons : List Cond := .code y_M_cons b_M_cons 4 (Option.some .int) :: gt
theorem hd_M_cons : (y_M_cons).cls ≠ "java/lang/invoke/MethodHandle" ∧ (y_M_cons).cls ≠ "java/lang/invoke/VarHandle" ∧ (parseMethodDescriptor (y_M_cons).desc).map (fun d => d.parameters.length) = some 3 := by decide +kernel
theorem d_M_cons_0 : decode b_M_cons 0 = .ok (.iload_n 1, 1) := by decide +kernel
theorem d_M_cons_1 : decode b_M_cons 1 = .ok (.invokestatic 66, 3) := by decide +kernel
theorem d_M_cons_4 : decode b_M_cons 4 = .ok (.ifCond .eq 41, 3) := by decide +kernel
theorem d_M_cons_7 : decode b_M_cons 7 = .ok (.aload_n 0, 1) := by decide +kernel
theorem d_M_cons_8 : decode b_M_cons 8 = .ok (.iload_n 2, 1) := by decide +kernel
theorem d_M_cons_9 : decode b_M_cons 9 = .ok (.invokevirtual 69, 3) := by decide +kernel
theorem d_M_cons_12 : decode b_M_cons 12 = .ok (.ifCond .eq 33, 3) := by decide +kernel
theorem d_M_cons_15 : decode b_M_cons 15 = .ok (.aload_n 0, 1) := by decide +kernel
theorem d_M_cons_16 : decode b_M_cons 16 = .ok (.iload_n 3, 1) := by decide +kernel
theorem d_M_cons_17 : decode b_M_cons 17 = .ok (.invokevirtual 124, 3) := by decide +kernel
theorem d_M_cons_20 : decode b_M_cons 20 = .ok (.bipush 11, 2) := by decide +kernel
theorem d_M_cons_22 : decode b_M_cons 22 = .ok (.if_icmp .ne 23, 3) := by decide +kernel
theorem d_M_cons_25 : decode b_M_cons 25 = .ok (.aload_n 0, 1) := by decide +kernel
theorem d_M_cons_26 : decode b_M_cons 26 = .ok (.getfield 13, 3) := by decide +kernel
theorem d_M_cons_29 : decode b_M_cons 29 = .ok (.aload_n 0, 1) := by decide +kernel
theorem d_M_cons_30 : decode b_M_cons 30 = .ok (.getfield 19, 3) := by decide +kernel
theorem d_M_cons_33 : decode b_M_cons 33 = .ok (.iload_n 3, 1) := by decide +kernel
theorem d_M_cons_34 : decode b_M_cons 34 = .ok (.iaload, 1) := by decide +kernel
theorem d_M_cons_35 : decode b_M_cons 35 = .ok (.iaload, 1) := by decide +kernel
theorem d_M_cons_36 : decode b_M_cons 36 = .ok (.aload_n 0, 1) := by decide +kernel
theorem d_M_cons_37 : decode b_M_cons 37 = .ok (.getfield 19, 3) := by decide +kernel
theorem d_M_cons_40 : decode b_M_cons 40 = .ok (.iload_n 2, 1) := by decide +kernel
theorem d_M_cons_41 : decode b_M_cons 41 = .ok (.iaload, 1) := by decide +kernel
theorem d_M_cons_42 : decode b_M_cons 42 = .ok (.if_icmp .eq 5, 3) := by decide +kernel
theorem d_M_cons_45 : decode b_M_cons 45 = .ok (.iconst (-1), 1) := by decide +kernel
theorem d_M_cons_46 : decode b_M_cons 46 = .ok (.ireturn, 1) := by decide +kernel
theorem d_M_cons_47 : decode b_M_cons 47 = .ok (.aload_n 0, 1) := by decide +kernel
theorem d_M_cons_48 : decode b_M_cons 48 = .ok (.iconst 0, 1) := by decide +kernel
theorem d_M_cons_49 : decode b_M_cons 49 = .ok (.putfield 98, 3) := by decide +kernel
theorem d_M_cons_52 : decode b_M_cons 52 = .ok (.aload_n 0, 1) := by decide +kernel
theorem d_M_cons_53 : decode b_M_cons 53 = .ok (.iconst 2, 1) := by decide +kernel
theorem d_M_cons_54 : decode b_M_cons 54 = .ok (.invokevirtual 101, 3) := by decide +kernel
theorem d_M_cons_57 : decode b_M_cons 57 = .ok (.aload_n 0, 1) := by decide +kernel
theorem d_M_cons_58 : decode b_M_cons 58 = .ok (.aload_n 0, 1) := by decide +kernel
theorem d_M_cons_59 : decode b_M_cons 59 = .ok (.getfield 26, 3) := by decide +kernel
theorem d_M_cons_62 : decode b_M_cons 62 = .ok (.iload_n 3, 1) := by decide +kernel
theorem d_M_cons_63 : decode b_M_cons 63 = .ok (.iaload, 1) := by decide +kernel
theorem d_M_cons_64 : decode b_M_cons 64 = .ok (.iconst 5, 1) := by decide +kernel
theorem d_M_cons_65 : decode b_M_cons 65 = .ok (.isub, 1) := by decide +kernel
theorem d_M_cons_66 : decode b_M_cons 66 = .ok (.aload_n 0, 1) := by decide +kernel
theorem d_M_cons_67 : decode b_M_cons 67 = .ok (.getfield 26, 3) := by decide +kernel
theorem d_M_cons_70 : decode b_M_cons 70 = .ok (.iload_n 2, 1) := by decide +kernel
theorem d_M_cons_71 : decode b_M_cons 71 = .ok (.iaload, 1) := by decide +kernel
theorem d_M_cons_72 : decode b_M_cons 72 = .ok (.iadd, 1) := by decide +kernel
theorem d_M_cons_73 : decode b_M_cons 73 = .ok (.invokevirtual 131, 3) := by decide +kernel
theorem d_M_cons_76 : decode b_M_cons 76 = .ok (.aload_n 0, 1) := by decide +kernel
theorem d_M_cons_77 : decode b_M_cons 77 = .ok (.iload_n 2, 1) := by decide +kernel
theorem d_M_cons_78 : decode b_M_cons 78 = .ok (.invokestatic 112, 3) := by decide +kernel
theorem d_M_cons_81 : decode b_M_cons 81 = .ok (.iload_n 2, 1) := by decide +kernel
theorem d_M_cons_82 : decode b_M_cons 82 = .ok (.invokestatic 112, 3) := by decide +kernel
theorem d_M_cons_85 : decode b_M_cons 85 = .ok (.aload_n 0, 1) := by decide +kernel
theorem d_M_cons_86 : decode b_M_cons 86 = .ok (.getfield 26, 3) := by decide +kernel
theorem d_M_cons_89 : decode b_M_cons 89 = .ok (.iload_n 2, 1) := by decide +kernel
theorem d_M_cons_90 : decode b_M_cons 90 = .ok (.iaload, 1) := by decide +kernel
theorem d_M_cons_91 : decode b_M_cons 91 = .ok (.iadd, 1) := by decide +kernel
theorem d_M_cons_92 : decode b_M_cons 92 = .ok (.invokevirtual 139, 3) := by decide +kernel
theorem d_M_cons_95 : decode b_M_cons 95 = .ok (.aload_n 0, 1) := by decide +kernel
theorem d_M_cons_96 : decode b_M_cons 96 = .ok (.iload_n 3, 1) := by decide +kernel
theorem d_M_cons_97 : decode b_M_cons 97 = .ok (.invokestatic 112, 3) := by decide +kernel
theorem d_M_cons_100 : decode b_M_cons 100 = .ok (.iconst 5, 1) := by decide +kernel
theorem d_M_cons_101 : decode b_M_cons 101 = .ok (.iadd, 1) := by decide +kernel
theorem d_M_cons_102 : decode b_M_cons 102 = .ok (.iload_n 3, 1) := by decide +kernel
theorem d_M_cons_103 : decode b_M_cons 103 = .ok (.invokestatic 112, 3) := by decide +kernel
theorem d_M_cons_106 : decode b_M_cons 106 = .ok (.aload_n 0, 1) := by decide +kernel
theorem d_M_cons_107 : decode b_M_cons 107 = .ok (.getfield 26, 3) := by decide +kernel
theorem d_M_cons_110 : decode b_M_cons 110 = .ok (.iload_n 3, 1) := by decide +kernel
theorem d_M_cons_111 : decode b_M_cons 111 = .ok (.iaload, 1) := by decide +kernel
theorem d_M_cons_112 : decode b_M_cons 112 = .ok (.iadd, 1) := by decide +kernel
theorem d_M_cons_113 : decode b_M_cons 113 = .ok (.invokevirtual 139, 3) := by decide +kernel
theorem d_M_cons_116 : decode b_M_cons 116 = .ok (.aload_n 0, 1) := by decide +kernel
theorem d_M_cons_117 : decode b_M_cons 117 = .ok (.iload_n 1, 1) := by decide +kernel
theorem d_M_cons_118 : decode b_M_cons 118 = .ok (.aload_n 0, 1) := by decide +kernel
theorem d_M_cons_119 : decode b_M_cons 119 = .ok (.getfield 19, 3) := by decide +kernel
theorem d_M_cons_122 : decode b_M_cons 122 = .ok (.iload_n 3, 1) := by decide +kernel
theorem d_M_cons_123 : decode b_M_cons 123 = .ok (.iaload, 1) := by decide +kernel
theorem d_M_cons_124 : decode b_M_cons 124 = .ok (.invokevirtual 121, 3) := by decide +kernel
theorem d_M_cons_127 : decode b_M_cons 127 = .ok (.ireturn, 1) := by decide +kernel
set_option maxHeartbeats 4000000 in
set_option maxRecDepth 100000 in
theorem p_M_cons (l : Launch) (D : va_G) (dT : Nat → ClassId) (H : Heap) (mm : Nat → Nat) (tb : Nat → TR) (tc : Nat) (RV : Nat → Option VT) (hI : mI D dT mm tb tc RV H) (r f g : Int32) : Met l y_M_cons w_M_cons ({ frames := 3, cells := 0, slots := 0, locals := 62 }) (z_P D dT [.ref (mm 0), .int r, .int f, .int g] H) (z_Q (mA mm) (fun v H1 => v = some (.int (kp RV r (o_cons tb RV f g)).1) ∧ mI D dT mm tb tc (kp RV r (o_cons tb RV f g)).2 H1)) 0 0 (mA mm) := by
  obtain ⟨wd, lf, rt, ty, F, sz, Wk, wz, dg, dc, sh, hM, hO, hT, hR, hWk⟩ := hI
  have hF := hR.1
  have htc := hO.1
  have htc10 := hO.2.1
  refine Met.ofW (cc := b_M_cons) (maxL := 4) (ret := (Option.some .int)) (by decide) rfl ?_
  intro p e s m args below meth c s₁ B hml hv
  obtain ⟨rfl, rfl, hK⟩ := hv
  have hx := B.exec
  have hb := B.bytes
  have hr := B.returns
  have hts := atoms_spec (ws := w_M_cons) B.pre
  have ht : ∀ w9 ∈ gt, w9.before [.ref (mm 0), .int r, .int f, .int g].toArray s = true := fun w9 h => hts w9 (List.mem_cons_of_mem _ h)
  have hown : s.vm.findClass "ValueTreesModel" = some m.cls := findClass_of_methodNamed B.named
  have hlocks := B.notSynchronized
  have hS : va_S (mA mm) s.heap s.heap [] := va_S.rf
  have hl := lv_entry ([.ref (mm 0), .int r, .int f, .int g]) (n := 4) (Nat.le_of_ble_eq_true rfl)
  rw [lg_entry_eq]
  generalize (lg_sl ([.ref (mm 0), .int r, .int f, .int g]) ++ List.replicate (4 - (lg_sl ([.ref (mm 0), .int r, .int f, .int g])).length) Slot.unset).toArray = ls at hl ⊢
  have hl : lv_has ls 4 [(0, .ref (mm 0)), (1, .int r), (2, .int f), (3, .int g)] := hl
  refine lv_iload_n hx hb d_M_cons_0 rfl (lv_at hl 1 rfl) ?_
  refine z_callR (va_runS (As := [.int r]) (rest := []) ⟨hx, hb, hml, hown, hts⟩ (c_M_isRegister l D dT _ r) ⟨callB_of 1 hts (gI gd_up gd_c q619) rfl rfl rfl (ht _ q10) (ht _ q617) hd_M_isRegister ⟨Nat.le_of_ble_eq_true rfl, Nat.le_of_ble_eq_true rfl⟩, ht _ q618⟩ (z_preS hK) rfl rfl hl.1 rfl (lv_room (Nat.le_of_ble_eq_true rfl)) d_M_cons_1 ⟨Nat.zero_le _, Nat.zero_le _⟩) (fun v2 hv1 => ?_)
  have hv1 : v2 = .int (if inR r then 1 else 0) := hv1
  rcases Classical.em (inR r) with hq3 | hq3
  · rw [if_pos hq3] at hv1
    subst hv1
    refine lv_if_eq (tgt := 45) hx hb d_M_cons_4 (by decide) (fun c4 => absurd c4 (by decide)) (fun _ => ?_)
    obtain ⟨j, hj, rfl⟩ := inR_of hq3
    refine lv_aload_n hx hb d_M_cons_7 rfl (lv_at hl 0 rfl) ?_
    refine lv_iload_n hx hb d_M_cons_8 rfl (lv_at hl 2 rfl) ?_
    refine z_callR (va_runV (C := "ValueTreesModel") (As := [.int f]) (rest := []) ⟨hx, hb, hml, hown, hts⟩ (c_M_hasValue l D dT _ mm wd lf rt tc ty F sz Wk wz dg dc sh hM tb hO hT RV hR f) ⟨callB_of 1 hts (gI gd_up gd_c q662) rfl rfl rfl (ht _ q10) (ht _ q659) hd_M_hasValue ⟨Nat.le_of_ble_eq_true rfl, Nat.le_of_ble_eq_true rfl⟩, ht _ q661, ht _ qs27⟩ (z_preV hK (va_recv hK.1 hM.1 (ci := 10) (q0 := 0) rfl rfl)) rfl rfl hl.1 rfl (lv_room (Nat.le_of_ble_eq_true rfl)) d_M_cons_9 ⟨Nat.zero_le _, Nat.zero_le _⟩) (fun v6 hv5 => ?_)
    have hv5 : v6 = .int (if (rgs RV f).isSome = true then 1 else 0) := hv5
    cases hr7 : rgs RV f with
    | none =>
      rw [hr7] at hv5
      subst hv5
      try dsimp only
      refine W.eq (g2 := F0 m 12 ls [.int 0]) rfl ?_
      refine lv_if_eq (tgt := 45) hx hb d_M_cons_12 (by decide) (fun _ => ?_) (fun c10 => absurd c10 (by decide))
      refine lv_iconst (v := (-1)) hx hb d_M_cons_45 (by decide) ?_
      refine z_iretQ hx hb hr hlocks d_M_cons_46 hS (Nat.le_refl _) (Nat.le_refl _) ?_
      have eo : o_cons tb RV f g = none := by unfold o_cons; rw [hr7]
      rw [eo]
      exact ⟨rfl, _, _, _, _, _, _, _, _, _, _, _, hM, hO, hT, hR, hWk⟩
    | some v8 =>
      rw [hr7] at hv5
      subst hv5
      refine W.eq (g2 := F0 m 12 ls [.int 1]) rfl ?_
      obtain ⟨j9, hj9, rfl, hV8⟩ := rgs_some hr7
      obtain ⟨ht8, et8, hw8, es8, hn8, hf8⟩ := mR_some hR hj9 hV8
      refine lv_if_eq (tgt := 45) hx hb d_M_cons_12 (by decide) (fun c11 => absurd c11 (by decide)) (fun _ => ?_)
      refine lv_aload_n hx hb d_M_cons_15 rfl (lv_at hl 0 rfl) ?_
      refine lv_iload_n hx hb d_M_cons_16 rfl (lv_at hl 3 rfl) ?_
      refine z_callR (va_runV (C := "ValueTreesModel") (As := [.int g]) (rest := []) ⟨hx, hb, hml, hown, hts⟩ (c_M_wordOf l D dT _ mm wd lf rt tc ty F sz Wk wz dg dc sh hM tb hO hT RV hR g) ⟨callB_of 1 hts (gI gd_up gd_c q658) rfl rfl rfl (ht _ q10) (ht _ q655) hd_M_wordOf ⟨Nat.le_of_ble_eq_true rfl, Nat.le_of_ble_eq_true rfl⟩, ht _ q657, ht _ qs26⟩ (z_preV hK (va_recv hK.1 hM.1 (ci := 10) (q0 := 0) rfl rfl)) rfl rfl hl.1 rfl (lv_room (Nat.le_of_ble_eq_true rfl)) d_M_cons_17 ⟨Nat.zero_le _, Nat.zero_le _⟩) (fun v13 hv12 => ?_)
      have hv12 : v13 = .int (match rgs RV g with | none => -1 | some v => nI (tW (tb (vty v)))) := hv12
      cases hr14 : rgs RV g with
      | none =>
        rw [hr14] at hv12
        subst hv12
        try dsimp only
        refine W.eq (g2 := F0 m 20 ls [.int (-1)]) rfl ?_
        refine lv_bipush (v := 11) hx hb d_M_cons_20 (by decide) ?_
        refine lv_icmp_ne (tgt := 45) hx hb d_M_cons_22 (by decide) (fun _ => ?_) (fun c17 => absurd c17 (by decide))
        refine lv_iconst (v := (-1)) hx hb d_M_cons_45 (by decide) ?_
        refine z_iretQ hx hb hr hlocks d_M_cons_46 hS (Nat.le_refl _) (Nat.le_refl _) ?_
        have eo : o_cons tb RV (nI j9) g = none := by unfold o_cons; rw [hr14, rgs_nI hj9, hV8]
        rw [eo]
        exact ⟨rfl, _, _, _, _, _, _, _, _, _, _, _, hM, hO, hT, hR, hWk⟩
      | some v15 =>
        rw [hr14] at hv12
        subst hv12
        refine W.eq (g2 := F0 m 20 ls [.int (nI (tW (tb (vty v15))))]) rfl ?_
        obtain ⟨j16, hj16, rfl, hV15⟩ := rgs_some hr14
        obtain ⟨ht15, et15, hw15, es15, hn15, hf15⟩ := mR_some hR hj16 hV15
        have hwl15 := (hO.2.2 _ ht15).1
        refine lv_bipush (v := 11) hx hb d_M_cons_20 (by decide) ?_
        refine lv_icmp_ne (tgt := 45) hx hb d_M_cons_22 (by decide) (fun c18 => ?_) (fun c18 => ?_)
        · have nc18 : ¬ (tW (tb (vty v15))) = 11 := fun h9 => c18 ((nI_eq (a := (tW (tb (vty v15)))) (b := 11) (by omega) (by omega)).mpr h9)
          refine lv_iconst (v := (-1)) hx hb d_M_cons_45 (by decide) ?_
          refine z_iretQ hx hb hr hlocks d_M_cons_46 hS (Nat.le_refl _) (Nat.le_refl _) ?_
          have eo : o_cons tb RV (nI j9) (nI j16) = none := by unfold o_cons; rw [rgs_nI hj9, rgs_nI hj16, hV8, hV15]; exact if_neg (fun h9 => nc18 h9.1)
          rw [eo]
          exact ⟨rfl, _, _, _, _, _, _, _, _, _, _, _, hM, hO, hT, hR, hWk⟩
        · have nc18 : (tW (tb (vty v15))) = 11 := (nI_eq (a := (tW (tb (vty v15)))) (b := 11) (by omega) (by omega)).mp c18
          have hword : tW (tb (vty v15)) = 11 := nc18
          obtain ⟨hLk, hltk, hlpk⟩ := tl_some hO ht15 (by omega)
          have elk : lf (vty v15) = nI (lt_ tb (vty v15)) := by rw [(hT _ ht15).2.1, hLk]; rfl
          obtain ⟨c9, ec9, hc9, hcs9, -⟩ := list_of hw15 hword
          have hlc9 : (cs v15).length = 5 + (cs c9).length := by rw [hcs9]; simp [size4]; omega
          have hfc9 : fAt F (160 * j16 + 5) (cs c9) := by have h8 := hf15; rw [hcs9, fAt_cons, fAt_s4] at h8; exact h8.2.2
          refine lv_aload_n hx hb d_M_cons_25 rfl (lv_at hl 0 rfl) ?_
          refine va_get (D := D) (ci := 10) (v := .ref (mm 2)) (C := "ValueTreesModel") (T := T_M) (N := 12) hx hb ht in_M hown hK.1 hM.1 0 rfl rfl 1 (by decide) (ht _ q540) (fun _ h9 => h9) rfl d_M_cons_26 ?_
          refine lv_aload_n hx hb d_M_cons_29 rfl (lv_at hl 0 rfl) ?_
          refine va_get (D := D) (ci := 10) (v := .ref (mm 4)) (C := "ValueTreesModel") (T := T_M) (N := 12) hx hb ht in_M hown hK.1 hM.1 0 rfl rfl 4 (by decide) (ht _ q543) (fun _ h9 => h9) rfl d_M_cons_30 ?_
          refine lv_iload_n hx hb d_M_cons_33 rfl (lv_at hl 3 rfl) ?_
          refine z_iald hx hb hK (hM.1 4 _ rfl) j16 rfl (by omega) (by decide) d_M_cons_34 ?_
          rw [et15]
          refine z_iald hx hb hK (hM.1 2 _ rfl) (vty v15) rfl (by omega) (by decide) d_M_cons_35 ?_
          rw [elk]
          refine lv_aload_n hx hb d_M_cons_36 rfl (lv_at hl 0 rfl) ?_
          refine va_get (D := D) (ci := 10) (v := .ref (mm 4)) (C := "ValueTreesModel") (T := T_M) (N := 12) hx hb ht in_M hown hK.1 hM.1 0 rfl rfl 4 (by decide) (ht _ q543) (fun _ h9 => h9) rfl d_M_cons_37 ?_
          refine lv_iload_n hx hb d_M_cons_40 rfl (lv_at hl 2 rfl) ?_
          refine z_iald hx hb hK (hM.1 4 _ rfl) j9 rfl (by omega) (by decide) d_M_cons_41 ?_
          rw [et8]
          refine lv_icmp_eq (tgt := 47) hx hb d_M_cons_42 (by decide) (fun c19 => ?_) (fun c19 => ?_)
          · have nc19 : (lt_ tb (vty v15)) = (vty v8) := (nI_eq (a := (lt_ tb (vty v15))) (b := (vty v8)) (by omega) (by omega)).mp c19
            refine lv_aload_n hx hb d_M_cons_47 rfl (lv_at hl 0 rfl) ?_
            refine lv_iconst (v := 0) hx hb d_M_cons_48 (by decide) ?_
            refine m_put_wz hx hb ht hown hK hM hS (ht _ q547) 0 rfl d_M_cons_49 (fun H locs hM hS => ?_)
            have hM : mAt D dT mm wd lf rt tc ty F sz Wk 0 dg dc sh H := hM
            have hW : wAt Wk ([] : List Nat) := wAt_nil hWk
            have hM : mAt D dT mm wd lf rt tc ty F sz Wk (([] : List Nat).length) dg dc sh H := hM
            refine lv_aload_n hx hb d_M_cons_52 rfl (lv_at hl 0 rfl) ?_
            refine lv_iconst (v := 2) hx hb d_M_cons_53 (by decide) ?_
            refine z_callQ (va_runV (C := "ValueTreesModel") (As := [.int 2]) (rest := []) ⟨hx, hb, hml, hown, hts⟩ (c_M_lay l D dT _ mm wd lf rt tc ty F sz Wk ([] : List Nat) dg dc sh hM hW 2 (by (try simp only [List.length_append, List.length_cons, List.length_nil, size4_len]); omega)) ⟨callB_of 1 hts (gI gd_up gd_c q635) rfl rfl rfl (ht _ q10) (ht _ q632) hd_M_lay ⟨Nat.le_of_ble_eq_true rfl, Nat.le_of_ble_eq_true rfl⟩, ht _ q634, ht _ qs22⟩ (z_preV hK (va_recv hK.1 hM.1 (ci := 10) (q0 := 0) rfl rfl)) rfl rfl hl.1 rfl (lv_room (Nat.le_of_ble_eq_true rfl)) d_M_cons_54 ⟨Nat.le_refl _, Nat.le_refl _⟩) hS (fun _ h9 => h9) (fun v21 H locs hv20 hz22 hf23 hS => ?_)
            obtain ⟨rfl, Wk, hW, hWk24, hM⟩ := hv20
            refine W.eq (g2 := F0 m 57 ls []) rfl ?_
            refine lv_aload_n hx hb d_M_cons_57 rfl (lv_at hl 0 rfl) ?_
            refine lv_aload_n hx hb d_M_cons_58 rfl (lv_at hl 0 rfl) ?_
            refine va_get (D := D) (ci := 10) (v := .ref (mm 6)) (C := "ValueTreesModel") (T := T_M) (N := 12) hx hb ht in_M hown hK.1 hM.1 0 rfl rfl 6 (by decide) (ht _ q545) (fun _ h9 => h9) rfl d_M_cons_59 ?_
            refine lv_iload_n hx hb d_M_cons_62 rfl (lv_at hl 3 rfl) ?_
            refine z_iald hx hb hK (hM.1 6 _ rfl) j16 rfl (by omega) (by decide) d_M_cons_63 ?_
            rw [es15]
            refine lv_iconst (v := 5) hx hb d_M_cons_64 (by decide) ?_
            refine lv_isub hx hb d_M_cons_65 ?_
            rw [show (((nI (cs v15).length) - 5) : Int32) = nI (((cs v15).length) - 5) from pk_sub (a := ((cs v15).length)) (b := 5) (by omega)]
            refine lv_aload_n hx hb d_M_cons_66 rfl (lv_at hl 0 rfl) ?_
            refine va_get (D := D) (ci := 10) (v := .ref (mm 6)) (C := "ValueTreesModel") (T := T_M) (N := 12) hx hb ht in_M hown hK.1 hM.1 0 rfl rfl 6 (by decide) (ht _ q545) (fun _ h9 => h9) rfl d_M_cons_67 ?_
            refine lv_iload_n hx hb d_M_cons_70 rfl (lv_at hl 2 rfl) ?_
            refine z_iald hx hb hK (hM.1 6 _ rfl) j9 rfl (by omega) (by decide) d_M_cons_71 ?_
            rw [es8]
            refine lv_iadd hx hb d_M_cons_72 ?_
            rw [show (((nI (((cs v15).length) - 5)) + (nI (cs v8).length)) : Int32) = nI ((((cs v15).length) - 5) + ((cs v8).length)) from nI_add (((cs v15).length) - 5) ((cs v8).length)]
            refine z_callQ (va_runV (C := "ValueTreesModel") (As := [.int (nI ((((cs v15).length) - 5) + ((cs v8).length)))]) (rest := []) ⟨hx, hb, hml, hown, hts⟩ (c_M_putSize l D dT _ mm wd lf rt tc ty F sz Wk (([] : List Nat) ++ [2 % 256]) dg dc sh hM hW ((((cs v15).length) - 5) + ((cs v8).length)) (by omega) (by (try simp only [List.length_append, List.length_cons, List.length_nil, size4_len]); omega)) ⟨callB_of 1 hts (gI gd_up gd_c q687) rfl rfl rfl (ht _ q10) (ht _ q684) hd_M_putSize ⟨Nat.le_of_ble_eq_true rfl, Nat.le_of_ble_eq_true rfl⟩, ht _ q686, ht _ qs32⟩ (z_preV hK (va_recv hK.1 hM.1 (ci := 10) (q0 := 0) rfl rfl)) rfl rfl hl.1 rfl (lv_room (Nat.le_of_ble_eq_true rfl)) d_M_cons_73 ⟨Nat.le_refl _, Nat.le_refl _⟩) hS (fun _ h9 => h9) (fun v26 H locs hv25 hz27 hf28 hS => ?_)
            obtain ⟨rfl, Wk, hW, hWk29, hM⟩ := hv25
            refine W.eq (g2 := F0 m 76 ls []) rfl ?_
            refine lv_aload_n hx hb d_M_cons_76 rfl (lv_at hl 0 rfl) ?_
            refine lv_iload_n hx hb d_M_cons_77 rfl (lv_at hl 2 rfl) ?_
            refine z_callR (va_runS (As := [.int (nI j9)]) (rest := [.ref (mm 0)]) ⟨hx, hb, hml, hown, hts⟩ (c_M_base l D dT _ (nI j9)) ⟨callB_of 1 hts (gI gd_up gd_c q650) rfl rfl rfl (ht _ q10) (ht _ q648) hd_M_base ⟨Nat.le_of_ble_eq_true rfl, Nat.le_of_ble_eq_true rfl⟩, ht _ q649⟩ (z_preS hK) rfl rfl hl.1 rfl (lv_room (Nat.le_of_ble_eq_true rfl)) d_M_cons_78 ⟨Nat.zero_le _, Nat.zero_le _⟩) (fun v31 hv30 => ?_)
            subst hv30
            rw [show (160 * nI j9 : Int32) = nI (160 * j9) from pk_mul 160 j9]
            refine lv_iload_n hx hb d_M_cons_81 rfl (lv_at hl 2 rfl) ?_
            refine z_callR (va_runS (As := [.int (nI j9)]) (rest := [.int (nI (160 * j9)), .ref (mm 0)]) ⟨hx, hb, hml, hown, hts⟩ (c_M_base l D dT _ (nI j9)) ⟨callB_of 1 hts (gI gd_up gd_c q650) rfl rfl rfl (ht _ q10) (ht _ q648) hd_M_base ⟨Nat.le_of_ble_eq_true rfl, Nat.le_of_ble_eq_true rfl⟩, ht _ q649⟩ (z_preS hK) rfl rfl hl.1 rfl (lv_room (Nat.le_of_ble_eq_true rfl)) d_M_cons_82 ⟨Nat.zero_le _, Nat.zero_le _⟩) (fun v33 hv32 => ?_)
            subst hv32
            rw [show (160 * nI j9 : Int32) = nI (160 * j9) from pk_mul 160 j9]
            refine lv_aload_n hx hb d_M_cons_85 rfl (lv_at hl 0 rfl) ?_
            refine va_get (D := D) (ci := 10) (v := .ref (mm 6)) (C := "ValueTreesModel") (T := T_M) (N := 12) hx hb ht in_M hown hK.1 hM.1 0 rfl rfl 6 (by decide) (ht _ q545) (fun _ h9 => h9) rfl d_M_cons_86 ?_
            refine lv_iload_n hx hb d_M_cons_89 rfl (lv_at hl 2 rfl) ?_
            refine z_iald hx hb hK (hM.1 6 _ rfl) j9 rfl (by omega) (by decide) d_M_cons_90 ?_
            rw [es8]
            refine lv_iadd hx hb d_M_cons_91 ?_
            rw [show (((nI (160 * j9)) + (nI (cs v8).length)) : Int32) = nI ((160 * j9) + ((cs v8).length)) from nI_add (160 * j9) ((cs v8).length)]
            refine z_callQ (va_runV (C := "ValueTreesModel") (As := [.int (nI (160 * j9)), .int (nI ((160 * j9) + ((cs v8).length)))]) (rest := []) ⟨hx, hb, hml, hown, hts⟩ (c_M_putFrom l D dT _ mm wd lf rt tc ty F sz Wk (([] : List Nat) ++ [2 % 256] ++ size4 ((((cs v15).length) - 5) + ((cs v8).length))) dg dc sh hM hW hF (160 * j9) (cs v8) hf8 (by omega) (by (try simp only [List.length_append, List.length_cons, List.length_nil, size4_len]); omega)) ⟨callB_of 2 hts (gI gd_up gd_c q707) rfl rfl rfl (ht _ q10) (ht _ q704) hd_M_putFrom ⟨Nat.le_of_ble_eq_true rfl, Nat.le_of_ble_eq_true rfl⟩, ht _ q706, ht _ qs33⟩ (z_preV hK (va_recv hK.1 hM.1 (ci := 10) (q0 := 0) rfl rfl)) rfl rfl hl.1 rfl (lv_room (Nat.le_of_ble_eq_true rfl)) d_M_cons_92 ⟨Nat.le_refl _, Nat.le_refl _⟩) hS (fun _ h9 => h9) (fun v35 H locs hv34 hz36 hf37 hS => ?_)
            obtain ⟨rfl, Wk, hW, hM⟩ := hv34
            refine W.eq (g2 := F0 m 95 ls []) rfl ?_
            refine lv_aload_n hx hb d_M_cons_95 rfl (lv_at hl 0 rfl) ?_
            refine lv_iload_n hx hb d_M_cons_96 rfl (lv_at hl 3 rfl) ?_
            refine z_callR (va_runS (As := [.int (nI j16)]) (rest := [.ref (mm 0)]) ⟨hx, hb, hml, hown, hts⟩ (c_M_base l D dT _ (nI j16)) ⟨callB_of 1 hts (gI gd_up gd_c q650) rfl rfl rfl (ht _ q10) (ht _ q648) hd_M_base ⟨Nat.le_of_ble_eq_true rfl, Nat.le_of_ble_eq_true rfl⟩, ht _ q649⟩ (z_preS hK) rfl rfl hl.1 rfl (lv_room (Nat.le_of_ble_eq_true rfl)) d_M_cons_97 ⟨Nat.zero_le _, Nat.zero_le _⟩) (fun v39 hv38 => ?_)
            subst hv38
            rw [show (160 * nI j16 : Int32) = nI (160 * j16) from pk_mul 160 j16]
            refine lv_iconst (v := 5) hx hb d_M_cons_100 (by decide) ?_
            refine lv_iadd hx hb d_M_cons_101 ?_
            rw [show (((nI (160 * j16)) + 5) : Int32) = nI ((160 * j16) + 5) from nI_add (160 * j16) 5]
            refine lv_iload_n hx hb d_M_cons_102 rfl (lv_at hl 3 rfl) ?_
            refine z_callR (va_runS (As := [.int (nI j16)]) (rest := [.int (nI ((160 * j16) + 5)), .ref (mm 0)]) ⟨hx, hb, hml, hown, hts⟩ (c_M_base l D dT _ (nI j16)) ⟨callB_of 1 hts (gI gd_up gd_c q650) rfl rfl rfl (ht _ q10) (ht _ q648) hd_M_base ⟨Nat.le_of_ble_eq_true rfl, Nat.le_of_ble_eq_true rfl⟩, ht _ q649⟩ (z_preS hK) rfl rfl hl.1 rfl (lv_room (Nat.le_of_ble_eq_true rfl)) d_M_cons_103 ⟨Nat.zero_le _, Nat.zero_le _⟩) (fun v41 hv40 => ?_)
            subst hv40
            rw [show (160 * nI j16 : Int32) = nI (160 * j16) from pk_mul 160 j16]
            refine lv_aload_n hx hb d_M_cons_106 rfl (lv_at hl 0 rfl) ?_
            refine va_get (D := D) (ci := 10) (v := .ref (mm 6)) (C := "ValueTreesModel") (T := T_M) (N := 12) hx hb ht in_M hown hK.1 hM.1 0 rfl rfl 6 (by decide) (ht _ q545) (fun _ h9 => h9) rfl d_M_cons_107 ?_
            refine lv_iload_n hx hb d_M_cons_110 rfl (lv_at hl 3 rfl) ?_
            refine z_iald hx hb hK (hM.1 6 _ rfl) j16 rfl (by omega) (by decide) d_M_cons_111 ?_
            rw [es15]
            refine lv_iadd hx hb d_M_cons_112 ?_
            rw [show (((nI (160 * j16)) + (nI (cs v15).length)) : Int32) = nI ((160 * j16) + ((cs v15).length)) from nI_add (160 * j16) ((cs v15).length)]
            rw [show (160 * j16) + ((cs v15).length) = (160 * j16) + 5 + (cs c9).length from (by omega)]
            refine z_callQ (va_runV (C := "ValueTreesModel") (As := [.int (nI ((160 * j16) + 5)), .int (nI ((160 * j16) + 5 + (cs c9).length))]) (rest := []) ⟨hx, hb, hml, hown, hts⟩ (c_M_putFrom l D dT _ mm wd lf rt tc ty F sz Wk (([] : List Nat) ++ [2 % 256] ++ size4 ((((cs v15).length) - 5) + ((cs v8).length)) ++ (cs v8)) dg dc sh hM hW hF ((160 * j16) + 5) (cs c9) hfc9 (by omega) (by (try simp only [List.length_append, List.length_cons, List.length_nil, size4_len]); omega)) ⟨callB_of 2 hts (gI gd_up gd_c q707) rfl rfl rfl (ht _ q10) (ht _ q704) hd_M_putFrom ⟨Nat.le_of_ble_eq_true rfl, Nat.le_of_ble_eq_true rfl⟩, ht _ q706, ht _ qs33⟩ (z_preV hK (va_recv hK.1 hM.1 (ci := 10) (q0 := 0) rfl rfl)) rfl rfl hl.1 rfl (lv_room (Nat.le_of_ble_eq_true rfl)) d_M_cons_113 ⟨Nat.le_refl _, Nat.le_refl _⟩) hS (fun _ h9 => h9) (fun v43 H locs hv42 hz44 hf45 hS => ?_)
            obtain ⟨rfl, Wk, hW, hM⟩ := hv42
            refine W.eq (g2 := F0 m 116 ls []) rfl ?_
            refine lv_aload_n hx hb d_M_cons_116 rfl (lv_at hl 0 rfl) ?_
            refine lv_iload_n hx hb d_M_cons_117 rfl (lv_at hl 1 rfl) ?_
            refine lv_aload_n hx hb d_M_cons_118 rfl (lv_at hl 0 rfl) ?_
            refine va_get (D := D) (ci := 10) (v := .ref (mm 4)) (C := "ValueTreesModel") (T := T_M) (N := 12) hx hb ht in_M hown hK.1 hM.1 0 rfl rfl 4 (by decide) (ht _ q543) (fun _ h9 => h9) rfl d_M_cons_119 ?_
            refine lv_iload_n hx hb d_M_cons_122 rfl (lv_at hl 3 rfl) ?_
            refine z_iald hx hb hK (hM.1 4 _ rfl) j16 rfl (by omega) (by decide) d_M_cons_123 ?_
            rw [et15]
            have hx9 : wty tb (.mul v8 c9) 1 (vty v15) := Or.inl ⟨rfl, hword, by rw [nc19]; exact hw8, hc9⟩
            have hcm : cs (.mul v8 c9) = cs v8 ++ cs c9 := by rw [cs_mul, eb_pow hw8]
            have ebs : ([] : List Nat) ++ [2 % 256] ++ size4 ((((cs v15).length) - 5) + ((cs v8).length)) ++ (cs v8) ++ (cs c9) = cs (.pow (.mul v8 c9) (vty v15)) := (by rw [w11_core hx9 hword, hcm, List.length_append, show (cs v15).length - 5 + (cs v8).length = (cs v8).length + (cs c9).length by omega]; simp [List.append_assoc])
            rw [ebs] at hW hM
            refine z_callQ (va_runV (C := "ValueTreesModel") (As := [.int (nI j), .int (nI (vty v15))]) (rest := []) ⟨hx, hb, hml, hown, hts⟩ (c_M_keep l D dT _ mm wd lf rt tc ty F sz Wk (cs (.pow (.mul v8 c9) (vty v15))) dg dc sh hM hW j (vty v15) hj (by rw [← ebs]; simp only [List.length_append, List.length_cons, List.length_nil, size4_len]; omega)) ⟨callB_of 2 hts (gI gd_up gd_c q647) rfl rfl rfl (ht _ q10) (ht _ q644) hd_M_keep ⟨Nat.le_of_ble_eq_true rfl, Nat.le_of_ble_eq_true rfl⟩, ht _ q646, ht _ qs25⟩ (z_preV hK (va_recv hK.1 hM.1 (ci := 10) (q0 := 0) rfl rfl)) rfl rfl hl.1 rfl (lv_room (Nat.le_of_ble_eq_true rfl)) d_M_cons_124 ⟨Nat.le_refl _, Nat.le_refl _⟩) hS (fun _ h9 => h9) (fun v47 H locs hv46 hz48 hf49 hS => ?_)
            rcases hv46 with ⟨hk1, rfl, hM⟩ | ⟨hk1, rfl, hM⟩
            · refine W.eq (g2 := F0 m 127 ls [.int (-2)]) rfl ?_
              refine z_iretQ hx hb hr hlocks d_M_cons_127 hS (Nat.le_refl _) (Nat.le_refl _) ?_
              have eo := show o_cons tb RV (nI j9) (nI j16) = some (.pow (.mul v8 c9) (vty v15)) from (by unfold o_cons; rw [rgs_nI hj9, rgs_nI hj16, hV8, hV15]; dsimp only; rw [if_pos ⟨hword, nc19.symm⟩, show coreOf v15 = c9 by rw [ec9]; rfl])
              rw [eo]
              exact kO_done ⟨_, _, _, _, _, hW.1, Or.inl ⟨hk1, rfl, hM⟩⟩ hO hT hR hj ht15 ⟨rfl, rfl, hx9⟩
            · refine W.eq (g2 := F0 m 127 ls [.int (nI (cs (.pow (.mul v8 c9) (vty v15))).length)]) rfl ?_
              refine z_iretQ hx hb hr hlocks d_M_cons_127 hS (Nat.le_refl _) (Nat.le_refl _) ?_
              have eo := show o_cons tb RV (nI j9) (nI j16) = some (.pow (.mul v8 c9) (vty v15)) from (by unfold o_cons; rw [rgs_nI hj9, rgs_nI hj16, hV8, hV15]; dsimp only; rw [if_pos ⟨hword, nc19.symm⟩, show coreOf v15 = c9 by rw [ec9]; rfl])
              rw [eo]
              exact kO_done ⟨_, _, _, _, _, hW.1, Or.inr ⟨hk1, rfl, hM⟩⟩ hO hT hR hj ht15 ⟨rfl, rfl, hx9⟩
          · have nc19 : ¬ (lt_ tb (vty v15)) = (vty v8) := fun h9 => c19 ((nI_eq (a := (lt_ tb (vty v15))) (b := (vty v8)) (by omega) (by omega)).mpr h9)
            refine lv_iconst (v := (-1)) hx hb d_M_cons_45 (by decide) ?_
            refine z_iretQ hx hb hr hlocks d_M_cons_46 hS (Nat.le_refl _) (Nat.le_refl _) ?_
            have eo : o_cons tb RV (nI j9) (nI j16) = none := by unfold o_cons; rw [rgs_nI hj9, rgs_nI hj16, hV8, hV15]; exact if_neg (fun h9 => nc19 h9.2.symm)
            rw [eo]
            exact ⟨rfl, _, _, _, _, _, _, _, _, _, _, _, hM, hO, hT, hR, hWk⟩
  · rw [if_neg hq3] at hv1
    subst hv1
    refine lv_if_eq (tgt := 45) hx hb d_M_cons_4 (by decide) (fun _ => ?_) (fun c50 => absurd c50 (by decide))
    refine lv_iconst (v := (-1)) hx hb d_M_cons_45 (by decide) ?_
    refine z_iretQ hx hb hr hlocks d_M_cons_46 hS (Nat.le_refl _) (Nat.le_refl _) ?_
    rw [kp_out hq3]
    exact ⟨rfl, _, _, _, _, _, _, _, _, _, _, _, hM, hO, hT, hR, hWk⟩
