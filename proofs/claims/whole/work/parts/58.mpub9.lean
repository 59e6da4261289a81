abbrev b_M_typeFor : ByteArray := prog_12_method_8_code
abbrev y_M_typeFor : MethodName := ⟨"ValueTreesModel", "typeFor", "(III)I"⟩
abbrev w_M_typeFor : List Cond := .code y_M_typeFor b_M_typeFor 5 (Option.some .int) :: gt
theorem hd_M_typeFor : (y_M_typeFor).cls ≠ "java/lang/invoke/MethodHandle" ∧ (y_M_typeFor).cls ≠ "java/lang/invoke/VarHandle" ∧ (parseMethodDescriptor (y_M_typeFor).desc).map (fun d => d.parameters.length) = some 3 := by decide +kernel
theorem d_M_typeFor_0 : decode b_M_typeFor 0 = .ok (.aload_n 0, 1) := by decide +kernel
theorem d_M_typeFor_1 : decode b_M_typeFor 1 = .ok (.iload_n 1, 1) := by decide +kernel
theorem d_M_typeFor_2 : decode b_M_typeFor 2 = .ok (.iload_n 2, 1) := by decide +kernel
theorem d_M_typeFor_3 : decode b_M_typeFor 3 = .ok (.iload_n 3, 1) := by decide +kernel
theorem d_M_typeFor_4 : decode b_M_typeFor 4 = .ok (.invokevirtual 56, 3) := by decide +kernel
theorem d_M_typeFor_7 : decode b_M_typeFor 7 = .ok (.istore 4, 2) := by decide +kernel
theorem d_M_typeFor_9 : decode b_M_typeFor 9 = .ok (.iload 4, 2) := by decide +kernel
theorem d_M_typeFor_11 : decode b_M_typeFor 11 = .ok (.ifCond .ge 43, 3) := by decide +kernel
theorem d_M_typeFor_14 : decode b_M_typeFor 14 = .ok (.aload_n 0, 1) := by decide +kernel
theorem d_M_typeFor_15 : decode b_M_typeFor 15 = .ok (.getfield 38, 3) := by decide +kernel
theorem d_M_typeFor_18 : decode b_M_typeFor 18 = .ok (.istore 4, 2) := by decide +kernel
theorem d_M_typeFor_20 : decode b_M_typeFor 20 = .ok (.aload_n 0, 1) := by decide +kernel
theorem d_M_typeFor_21 : decode b_M_typeFor 21 = .ok (.dup, 1) := by decide +kernel
theorem d_M_typeFor_22 : decode b_M_typeFor 22 = .ok (.getfield 38, 3) := by decide +kernel
theorem d_M_typeFor_25 : decode b_M_typeFor 25 = .ok (.iconst 1, 1) := by decide +kernel
theorem d_M_typeFor_26 : decode b_M_typeFor 26 = .ok (.iadd, 1) := by decide +kernel
theorem d_M_typeFor_27 : decode b_M_typeFor 27 = .ok (.putfield 38, 3) := by decide +kernel
theorem d_M_typeFor_30 : decode b_M_typeFor 30 = .ok (.aload_n 0, 1) := by decide +kernel
theorem d_M_typeFor_31 : decode b_M_typeFor 31 = .ok (.getfield 7, 3) := by decide +kernel
theorem d_M_typeFor_34 : decode b_M_typeFor 34 = .ok (.iload 4, 2) := by decide +kernel
theorem d_M_typeFor_36 : decode b_M_typeFor 36 = .ok (.iload_n 1, 1) := by decide +kernel
theorem d_M_typeFor_37 : decode b_M_typeFor 37 = .ok (.iastore, 1) := by decide +kernel
theorem d_M_typeFor_38 : decode b_M_typeFor 38 = .ok (.aload_n 0, 1) := by decide +kernel
theorem d_M_typeFor_39 : decode b_M_typeFor 39 = .ok (.getfield 13, 3) := by decide +kernel
theorem d_M_typeFor_42 : decode b_M_typeFor 42 = .ok (.iload 4, 2) := by decide +kernel
theorem d_M_typeFor_44 : decode b_M_typeFor 44 = .ok (.iload_n 2, 1) := by decide +kernel
theorem d_M_typeFor_45 : decode b_M_typeFor 45 = .ok (.iastore, 1) := by decide +kernel
theorem d_M_typeFor_46 : decode b_M_typeFor 46 = .ok (.aload_n 0, 1) := by decide +kernel
theorem d_M_typeFor_47 : decode b_M_typeFor 47 = .ok (.getfield 16, 3) := by decide +kernel
theorem d_M_typeFor_50 : decode b_M_typeFor 50 = .ok (.iload 4, 2) := by decide +kernel
theorem d_M_typeFor_52 : decode b_M_typeFor 52 = .ok (.iload_n 3, 1) := by decide +kernel
theorem d_M_typeFor_53 : decode b_M_typeFor 53 = .ok (.iastore, 1) := by decide +kernel
theorem d_M_typeFor_54 : decode b_M_typeFor 54 = .ok (.iload 4, 2) := by decide +kernel
theorem d_M_typeFor_56 : decode b_M_typeFor 56 = .ok (.ireturn, 1) := by decide +kernel
set_option maxHeartbeats 4000000 in
set_option maxRecDepth 100000 in
theorem c_M_typeFor (l : Launch) (D : va_G) (dT : Nat → ClassId) (H : Heap) (mm : Nat → Nat) (wd lf rt : Nat → Int32) (tc : Nat) (ty : Nat → Int32) (F : Nat → Nat) (sz : Nat → Int32) (Wk : Nat → Nat) (wz : Nat) (dg : Nat → Nat) (dc : Nat) (sh : Nat → Nat) (hM : mAt D dT mm wd lf rt tc ty F sz Wk wz dg dc sh H) (tb : Nat → TR) (hO : tOK tb tc) (hT : mT tb tc wd lf rt) (w a : Nat) (ob : Option Nat) (hrow : rowOK tb tc w a ob) (hfull : tfd tb w (some a) ob tc = none → tc < 2000) : Met l y_M_typeFor w_M_typeFor ({ frames := 1, cells := 0, slots := 0, locals := 24 }) (z_P D dT [.ref (mm 0), .int (nI w), .int (nI a), .int (oI ob)] H) (z_Q (mA mm) (fun v H1 => ∃ t tb' tc' wd' lf' rt', numT tb tc (mkR tb w a ob) = (some t, tb', tc') ∧ v = some (.int (nI t)) ∧ t < tc' ∧ tOK tb' tc' ∧ mT tb' tc' wd' lf' rt' ∧ (∀ k, k < tc → tb' k = tb k) ∧ tc ≤ tc' ∧ isT (tb' t) w (some a) ob ∧ mAt D dT mm wd' lf' rt' tc' ty F sz Wk wz dg dc sh H1)) 0 0 (mA mm) := by
  refine Met.ofW (cc := b_M_typeFor) (maxL := 5) (ret := (Option.some .int)) (by decide) rfl ?_
  intro p e s m args below meth c s₁ B hml hv
  obtain ⟨rfl, rfl, hK⟩ := hv
  have hx := B.exec
  have hb := B.bytes
  have hr := B.returns
  have hts := atoms_spec (ws := w_M_typeFor) B.pre
  have ht : ∀ w9 ∈ gt, w9.before [.ref (mm 0), .int (nI w), .int (nI a), .int (oI ob)].toArray s = true := fun w9 h => hts w9 (List.mem_cons_of_mem _ h)
  have hown : s.vm.findClass "ValueTreesModel" = some m.cls := findClass_of_methodNamed B.named
  have hlocks := B.notSynchronized
  have hS : va_S (mA mm) s.heap s.heap [] := va_S.rf
  have hl := lv_entry ([.ref (mm 0), .int (nI w), .int (nI a), .int (oI ob)]) (n := 5) (Nat.le_of_ble_eq_true rfl)
  rw [lg_entry_eq]
  generalize (lg_sl ([.ref (mm 0), .int (nI w), .int (nI a), .int (oI ob)]) ++ List.replicate (5 - (lg_sl ([.ref (mm 0), .int (nI w), .int (nI a), .int (oI ob)])).length) Slot.unset).toArray = ls at hl ⊢
  have hl : lv_has ls 5 [(0, .ref (mm 0)), (1, .int (nI w)), (2, .int (nI a)), (3, .int (oI ob))] := hl
  have htc := hO.1
  have hro := hrow
  obtain ⟨ho1, ho2, ho3, ho4, ho5, ho6, ho7⟩ := hro
  refine lv_aload_n hx hb d_M_typeFor_0 rfl (lv_at hl 0 rfl) ?_
  refine lv_iload_n hx hb d_M_typeFor_1 rfl (lv_at hl 1 rfl) ?_
  refine lv_iload_n hx hb d_M_typeFor_2 rfl (lv_at hl 2 rfl) ?_
  refine lv_iload_n hx hb d_M_typeFor_3 rfl (lv_at hl 3 rfl) ?_
  refine z_callR (va_runV (C := "ValueTreesModel") (As := [.int (nI w), .int (nI a), .int (oI ob)]) (rest := []) ⟨hx, hb, hml, hown, hts⟩ (c_M_find l D dT _ mm wd lf rt tc ty F sz Wk wz dg dc sh hM (nI w) (nI a) (oI ob) htc) ⟨callB_of 3 hts (gI gd_up gd_c q596) rfl rfl rfl (ht _ q10) (ht _ q593) hd_M_find ⟨Nat.le_of_ble_eq_true rfl, Nat.le_of_ble_eq_true rfl⟩, ht _ q595, ht _ qs16⟩ (z_preV hK (va_recv hK.1 hM.1 (ci := 10) (q0 := 0) rfl rfl)) rfl rfl hl.1 rfl (lv_room (Nat.le_of_ble_eq_true rfl)) d_M_typeFor_4 ⟨Nat.zero_le _, Nat.zero_le _⟩) (fun v2 hv1 => ?_)
  rcases find_fork hO hT (w := w) (L := some a) (R := ob) (by omega) (fun k hk => by cases hk; exact ho3) ho5 hv1 with ⟨tf, htf, hfd, hisf, rfl⟩ | ⟨hfd, rfl⟩
  · refine lv_istore (lv' := [(4, .int (nI tf)), (0, .ref (mm 0)), (1, .int (nI w)), (2, .int (nI a)), (3, .int (oI ob))]) hx hb d_M_typeFor_7 hl (by decide) rfl (fun ls hl => ?_)
    refine lv_iload hx hb d_M_typeFor_9 (lv_at hl 0 rfl) ?_
    refine lv_if_ge (tgt := 54) hx hb d_M_typeFor_11 (by decide) (fun c3 => ?_) (fun c3 => absurd (nI_pos' (by omega)) c3)
    refine lv_iload hx hb d_M_typeFor_54 (lv_at hl 0 rfl) ?_
    exact z_iretQ hx hb hr hlocks d_M_typeFor_56 hS (Nat.le_refl _) (Nat.le_refl _) ⟨tf, tb, tc, wd, lf, rt, numT_some hfd, rfl, htf, hO, hT, fun _ _ => rfl, Nat.le_refl _, hisf, hM⟩
  · refine lv_istore (lv' := [(4, .int (-1)), (0, .ref (mm 0)), (1, .int (nI w)), (2, .int (nI a)), (3, .int (oI ob))]) hx hb d_M_typeFor_7 hl (by decide) rfl (fun ls hl => ?_)
    refine lv_iload hx hb d_M_typeFor_9 (lv_at hl 0 rfl) ?_
    refine lv_if_ge (tgt := 54) hx hb d_M_typeFor_11 (by decide) (fun c4 => absurd c4 (by decide)) (fun _ => ?_)
    have hfl := hfull hfd
    refine lv_aload_n hx hb d_M_typeFor_14 rfl (lv_at hl 1 rfl) ?_
    refine va_get (D := D) (ci := 10) (v := .int (nI tc)) (C := "ValueTreesModel") (T := T_M) (N := 12) hx hb ht in_M hown hK.1 hM.1 0 rfl rfl 3 (by decide) (ht _ q542) (fun _ h9 => h9) rfl d_M_typeFor_15 ?_
    refine lv_istore (lv' := [(4, .int (nI tc)), (0, .ref (mm 0)), (1, .int (nI w)), (2, .int (nI a)), (3, .int (oI ob))]) hx hb d_M_typeFor_18 hl (by decide) rfl (fun ls hl => ?_)
    refine lv_aload_n hx hb d_M_typeFor_20 rfl (lv_at hl 1 rfl) ?_
    refine lv_dup hx hb d_M_typeFor_21 rfl ?_
    refine va_get (D := D) (ci := 10) (v := .int (nI tc)) (C := "ValueTreesModel") (T := T_M) (N := 12) hx hb ht in_M hown hK.1 hM.1 0 rfl rfl 3 (by decide) (ht _ q542) (fun _ h9 => h9) rfl d_M_typeFor_22 ?_
    refine lv_iconst (v := 1) hx hb d_M_typeFor_25 (by decide) ?_
    refine lv_iadd hx hb d_M_typeFor_26 ?_
    rw [show (((nI tc) + 1) : Int32) = nI (tc + 1) from nI_add tc 1]
    refine m_put_tc hx hb ht hown hK hM hS (ht _ q542) (tc + 1) rfl d_M_typeFor_27 (fun H locs hM hS => ?_)
    have hM : mAt D dT mm wd lf rt (tc + 1) ty F sz Wk wz dg dc sh H := hM
    refine lv_aload_n hx hb d_M_typeFor_30 rfl (lv_at hl 1 rfl) ?_
    refine va_get (D := D) (ci := 10) (v := .ref (mm 1)) (C := "ValueTreesModel") (T := T_M) (N := 12) hx hb ht in_M hown hK.1 hM.1 0 rfl rfl 0 (by decide) (ht _ q539) (fun _ h9 => h9) rfl d_M_typeFor_31 ?_
    refine lv_iload hx hb d_M_typeFor_34 (lv_at hl 0 rfl) ?_
    refine lv_iload_n hx hb d_M_typeFor_36 rfl (lv_at hl 2 rfl) ?_
    refine m_ast_wd hx hb hK hM hS tc rfl (by omega) d_M_typeFor_37 (fun H locs hM hS => ?_)
    have hM : mAt D dT mm (upd wd tc (nI w)) lf rt (tc + 1) ty F sz Wk wz dg dc sh H := hM
    refine lv_aload_n hx hb d_M_typeFor_38 rfl (lv_at hl 1 rfl) ?_
    refine va_get (D := D) (ci := 10) (v := .ref (mm 2)) (C := "ValueTreesModel") (T := T_M) (N := 12) hx hb ht in_M hown hK.1 hM.1 0 rfl rfl 1 (by decide) (ht _ q540) (fun _ h9 => h9) rfl d_M_typeFor_39 ?_
    refine lv_iload hx hb d_M_typeFor_42 (lv_at hl 0 rfl) ?_
    refine lv_iload_n hx hb d_M_typeFor_44 rfl (lv_at hl 3 rfl) ?_
    refine m_ast_lf hx hb hK hM hS tc rfl (by omega) d_M_typeFor_45 (fun H locs hM hS => ?_)
    have hM : mAt D dT mm (upd wd tc (nI w)) (upd lf tc (nI a)) rt (tc + 1) ty F sz Wk wz dg dc sh H := hM
    refine lv_aload_n hx hb d_M_typeFor_46 rfl (lv_at hl 1 rfl) ?_
    refine va_get (D := D) (ci := 10) (v := .ref (mm 3)) (C := "ValueTreesModel") (T := T_M) (N := 12) hx hb ht in_M hown hK.1 hM.1 0 rfl rfl 2 (by decide) (ht _ q541) (fun _ h9 => h9) rfl d_M_typeFor_47 ?_
    refine lv_iload hx hb d_M_typeFor_50 (lv_at hl 0 rfl) ?_
    refine lv_iload_n hx hb d_M_typeFor_52 rfl (lv_at hl 4 rfl) ?_
    refine m_ast_rt hx hb hK hM hS tc rfl (by omega) d_M_typeFor_53 (fun H locs hM hS => ?_)
    have hM : mAt D dT mm (upd wd tc (nI w)) (upd lf tc (nI a)) (upd rt tc (oI ob)) (tc + 1) ty F sz Wk wz dg dc sh H := hM
    refine lv_iload hx hb d_M_typeFor_54 (lv_at hl 0 rfl) ?_
    exact z_iretQ hx hb hr hlocks d_M_typeFor_56 hS (Nat.le_refl _) (Nat.le_refl _) ⟨tc, updT tb tc (mkR tb w a ob), tc + 1, _, _, _, numT_new hfd (by have := hfull hfd; omega), rfl, by omega, tOK_new hO hrow (hfull hfd), mT_new hT, fun k hk => updT_o hk, by omega, by rw [updT_s]; exact ⟨rfl, rfl, rfl⟩, hM⟩
abbrev b_M_type : ByteArray := prog_12_method_9_code
abbrev y_M_type : MethodName := ⟨"ValueTreesModel", "type", "(III)I"⟩
abbrev w_M_type : List Cond := .code y_M_type b_M_type 7 (Option.some .int) :: gt
theorem hd_M_type : (y_M_type).cls ≠ "java/lang/invoke/MethodHandle" ∧ (y_M_type).cls ≠ "java/lang/invoke/VarHandle" ∧ (parseMethodDescriptor (y_M_type).desc).map (fun d => d.parameters.length) = some 3 := by decide +kernel
theorem d_M_type_0 : decode b_M_type 0 = .ok (.iload_n 1, 1) := by decide +kernel
theorem d_M_type_1 : decode b_M_type 1 = .ok (.bipush 14, 2) := by decide +kernel
theorem d_M_type_3 : decode b_M_type 3 = .ok (.if_icmp .lt 7, 3) := by decide +kernel
theorem d_M_type_6 : decode b_M_type 6 = .ok (.iconst 1, 1) := by decide +kernel
theorem d_M_type_7 : decode b_M_type 7 = .ok (.goto 4, 3) := by decide +kernel
theorem d_M_type_10 : decode b_M_type 10 = .ok (.iconst 0, 1) := by decide +kernel
theorem d_M_type_11 : decode b_M_type 11 = .ok (.istore 4, 2) := by decide +kernel
theorem d_M_type_13 : decode b_M_type 13 = .ok (.iload_n 1, 1) := by decide +kernel
theorem d_M_type_14 : decode b_M_type 14 = .ok (.bipush 10, 2) := by decide +kernel
theorem d_M_type_16 : decode b_M_type 16 = .ok (.if_icmp .lt 30, 3) := by decide +kernel
theorem d_M_type_19 : decode b_M_type 19 = .ok (.iload_n 1, 1) := by decide +kernel
theorem d_M_type_20 : decode b_M_type 20 = .ok (.bipush 18, 2) := by decide +kernel
theorem d_M_type_22 : decode b_M_type 22 = .ok (.if_icmp .gt 24, 3) := by decide +kernel
theorem d_M_type_25 : decode b_M_type 25 = .ok (.aload_n 0, 1) := by decide +kernel
theorem d_M_type_26 : decode b_M_type 26 = .ok (.iload_n 2, 1) := by decide +kernel
theorem d_M_type_27 : decode b_M_type 27 = .ok (.invokevirtual 60, 3) := by decide +kernel
theorem d_M_type_30 : decode b_M_type 30 = .ok (.ifCond .eq 16, 3) := by decide +kernel
theorem d_M_type_33 : decode b_M_type 33 = .ok (.iload 4, 2) := by decide +kernel
theorem d_M_type_35 : decode b_M_type 35 = .ok (.ifCond .eq 13, 3) := by decide +kernel
theorem d_M_type_38 : decode b_M_type 38 = .ok (.aload_n 0, 1) := by decide +kernel
theorem d_M_type_39 : decode b_M_type 39 = .ok (.iload_n 3, 1) := by decide +kernel
theorem d_M_type_40 : decode b_M_type 40 = .ok (.invokevirtual 60, 3) := by decide +kernel
theorem d_M_type_43 : decode b_M_type 43 = .ok (.ifCond .ne 5, 3) := by decide +kernel
theorem d_M_type_46 : decode b_M_type 46 = .ok (.iconst (-1), 1) := by decide +kernel
theorem d_M_type_47 : decode b_M_type 47 = .ok (.ireturn, 1) := by decide +kernel
theorem d_M_type_48 : decode b_M_type 48 = .ok (.iload_n 1, 1) := by decide +kernel
theorem d_M_type_49 : decode b_M_type 49 = .ok (.bipush 12, 2) := by decide +kernel
theorem d_M_type_51 : decode b_M_type 51 = .ok (.if_icmp .eq 15, 3) := by decide +kernel
theorem d_M_type_54 : decode b_M_type 54 = .ok (.iload_n 1, 1) := by decide +kernel
theorem d_M_type_55 : decode b_M_type 55 = .ok (.bipush 15, 2) := by decide +kernel
theorem d_M_type_57 : decode b_M_type 57 = .ok (.if_icmp .eq 9, 3) := by decide +kernel
theorem d_M_type_60 : decode b_M_type 60 = .ok (.iload_n 1, 1) := by decide +kernel
theorem d_M_type_61 : decode b_M_type 61 = .ok (.bipush 16, 2) := by decide +kernel
theorem d_M_type_63 : decode b_M_type 63 = .ok (.if_icmp .ne 7, 3) := by decide +kernel
theorem d_M_type_66 : decode b_M_type 66 = .ok (.iconst 1, 1) := by decide +kernel
theorem d_M_type_67 : decode b_M_type 67 = .ok (.goto 4, 3) := by decide +kernel
theorem d_M_type_70 : decode b_M_type 70 = .ok (.iconst 0, 1) := by decide +kernel
theorem d_M_type_71 : decode b_M_type 71 = .ok (.istore 5, 2) := by decide +kernel
theorem d_M_type_73 : decode b_M_type 73 = .ok (.iload 5, 2) := by decide +kernel
theorem d_M_type_75 : decode b_M_type 75 = .ok (.ifCond .eq 11, 3) := by decide +kernel
theorem d_M_type_78 : decode b_M_type 78 = .ok (.aload_n 0, 1) := by decide +kernel
theorem d_M_type_79 : decode b_M_type 79 = .ok (.iload_n 2, 1) := by decide +kernel
theorem d_M_type_80 : decode b_M_type 80 = .ok (.invokevirtual 46, 3) := by decide +kernel
theorem d_M_type_83 : decode b_M_type 83 = .ok (.ifCond .eq 31, 3) := by decide +kernel
theorem d_M_type_86 : decode b_M_type 86 = .ok (.iconst 1, 1) := by decide +kernel
theorem d_M_type_87 : decode b_M_type 87 = .ok (.aload_n 0, 1) := by decide +kernel
theorem d_M_type_88 : decode b_M_type 88 = .ok (.iload_n 2, 1) := by decide +kernel
theorem d_M_type_89 : decode b_M_type 89 = .ok (.invokevirtual 42, 3) := by decide +kernel
theorem d_M_type_92 : decode b_M_type 92 = .ok (.iadd, 1) := by decide +kernel
theorem d_M_type_93 : decode b_M_type 93 = .ok (.iload 4, 2) := by decide +kernel
theorem d_M_type_95 : decode b_M_type 95 = .ok (.ifCond .eq 11, 3) := by decide +kernel
theorem d_M_type_98 : decode b_M_type 98 = .ok (.aload_n 0, 1) := by decide +kernel
theorem d_M_type_99 : decode b_M_type 99 = .ok (.iload_n 3, 1) := by decide +kernel
theorem d_M_type_100 : decode b_M_type 100 = .ok (.invokevirtual 42, 3) := by decide +kernel
theorem d_M_type_103 : decode b_M_type 103 = .ok (.goto 4, 3) := by decide +kernel
theorem d_M_type_106 : decode b_M_type 106 = .ok (.iconst 0, 1) := by decide +kernel
theorem d_M_type_107 : decode b_M_type 107 = .ok (.iadd, 1) := by decide +kernel
theorem d_M_type_108 : decode b_M_type 108 = .ok (.sipush 200, 3) := by decide +kernel
theorem d_M_type_111 : decode b_M_type 111 = .ok (.if_icmp .le 5, 3) := by decide +kernel
theorem d_M_type_114 : decode b_M_type 114 = .ok (.iconst (-1), 1) := by decide +kernel
theorem d_M_type_115 : decode b_M_type 115 = .ok (.ireturn, 1) := by decide +kernel
theorem d_M_type_116 : decode b_M_type 116 = .ok (.iload 4, 2) := by decide +kernel
theorem d_M_type_118 : decode b_M_type 118 = .ok (.ifCond .eq 7, 3) := by decide +kernel
theorem d_M_type_121 : decode b_M_type 121 = .ok (.iload_n 3, 1) := by decide +kernel
theorem d_M_type_122 : decode b_M_type 122 = .ok (.goto 4, 3) := by decide +kernel
theorem d_M_type_125 : decode b_M_type 125 = .ok (.iconst (-1), 1) := by decide +kernel
theorem d_M_type_126 : decode b_M_type 126 = .ok (.istore 6, 2) := by decide +kernel
theorem d_M_type_128 : decode b_M_type 128 = .ok (.aload_n 0, 1) := by decide +kernel
theorem d_M_type_129 : decode b_M_type 129 = .ok (.iload_n 1, 1) := by decide +kernel
theorem d_M_type_130 : decode b_M_type 130 = .ok (.iload_n 2, 1) := by decide +kernel
theorem d_M_type_131 : decode b_M_type 131 = .ok (.iload 6, 2) := by decide +kernel
theorem d_M_type_133 : decode b_M_type 133 = .ok (.invokevirtual 56, 3) := by decide +kernel
theorem d_M_type_136 : decode b_M_type 136 = .ok (.ifCond .ge 18, 3) := by decide +kernel
theorem d_M_type_139 : decode b_M_type 139 = .ok (.aload_n 0, 1) := by decide +kernel
theorem d_M_type_140 : decode b_M_type 140 = .ok (.getfield 38, 3) := by decide +kernel
theorem d_M_type_143 : decode b_M_type 143 = .ok (.sipush 2000, 3) := by decide +kernel
theorem d_M_type_146 : decode b_M_type 146 = .ok (.if_icmp .ne 8, 3) := by decide +kernel
theorem d_M_type_149 : decode b_M_type 149 = .ok (.bipush (-2), 2) := by decide +kernel
theorem d_M_type_151 : decode b_M_type 151 = .ok (.goto 11, 3) := by decide +kernel
theorem d_M_type_154 : decode b_M_type 154 = .ok (.aload_n 0, 1) := by decide +kernel
theorem d_M_type_155 : decode b_M_type 155 = .ok (.iload_n 1, 1) := by decide +kernel
theorem d_M_type_156 : decode b_M_type 156 = .ok (.iload_n 2, 1) := by decide +kernel
theorem d_M_type_157 : decode b_M_type 157 = .ok (.iload 6, 2) := by decide +kernel
theorem d_M_type_159 : decode b_M_type 159 = .ok (.invokevirtual 63, 3) := by decide +kernel
theorem d_M_type_162 : decode b_M_type 162 = .ok (.ireturn, 1) := by decide +kernel
set_option maxHeartbeats 4000000 in
set_option maxRecDepth 100000 in
theorem p_M_type (l : Launch) (D : va_G) (dT : Nat → ClassId) (H : Heap) (mm : Nat → Nat) (tb : Nat → TR) (tc : Nat) (RV : Nat → Option VT) (hI : mI D dT mm tb tc RV H) (w a b : Int32) : Met l y_M_type w_M_type ({ frames := 210, cells := 0, slots := 0, locals := 5400 }) (z_P D dT [.ref (mm 0), .int w, .int a, .int b] H) (z_Q (mA mm) (fun v H1 => v = some (.int (a_type tb tc w a b).1) ∧ mI D dT mm (a_type tb tc w a b).2.1 (a_type tb tc w a b).2.2 RV H1)) 0 0 (mA mm) := by
  obtain ⟨wd, lf, rt, ty, F, sz, Wk, wz, dg, dc, sh, hM, hO, hT, hR, hWk⟩ := hI
  have hF := hR.1
  have htc := hO.1
  have htc10 := hO.2.1
  refine Met.ofW (cc := b_M_type) (maxL := 7) (ret := (Option.some .int)) (by decide) rfl ?_
  intro p e s m args below meth c s₁ B hml hv
  obtain ⟨rfl, rfl, hK⟩ := hv
  have hx := B.exec
  have hb := B.bytes
  have hr := B.returns
  have hts := atoms_spec (ws := w_M_type) B.pre
  have ht : ∀ w9 ∈ gt, w9.before [.ref (mm 0), .int w, .int a, .int b].toArray s = true := fun w9 h => hts w9 (List.mem_cons_of_mem _ h)
  have hown : s.vm.findClass "ValueTreesModel" = some m.cls := findClass_of_methodNamed B.named
  have hlocks := B.notSynchronized
  have hS : va_S (mA mm) s.heap s.heap [] := va_S.rf
  have hl := lv_entry ([.ref (mm 0), .int w, .int a, .int b]) (n := 7) (Nat.le_of_ble_eq_true rfl)
  rw [lg_entry_eq]
  generalize (lg_sl ([.ref (mm 0), .int w, .int a, .int b]) ++ List.replicate (7 - (lg_sl ([.ref (mm 0), .int w, .int a, .int b])).length) Slot.unset).toArray = ls at hl ⊢
  have hl : lv_has ls 7 [(0, .ref (mm 0)), (1, .int w), (2, .int a), (3, .int b)] := hl
  rcases Classical.em (10 ≤ w ∧ w ≤ 18) with hw9 | hw9
  · obtain ⟨wn, hwn, rfl⟩ := nI_of (x := w) (fun h9 => absurd (Int32.le_trans (show (0 : Int32) ≤ 10 by decide) hw9.1) (Int32.not_le.mpr h9))
    have hw10 : 10 ≤ wn := (nI_leI (by decide) hwn).mp hw9.1
    have hw18 : wn ≤ 18 := (nI_leI hwn (by decide)).mp hw9.2
    refine lv_iload_n hx hb d_M_type_0 rfl (lv_at hl 1 rfl) ?_
    refine lv_bipush (v := 14) hx hb d_M_type_1 (by decide) ?_
    refine lv_icmp_lt (tgt := 10) hx hb d_M_type_3 (by decide) (fun c1 => ?_) (fun c1 => ?_)
    · have nc1 : wn < 14 := (nI_ltI (a := wn) (b := 14) (by omega) (by omega)).mp c1
      refine lv_iconst (v := 0) hx hb d_M_type_10 (by decide) ?_
      refine lv_istore (lv' := [(4, .int 0), (0, .ref (mm 0)), (1, .int (nI wn)), (2, .int a), (3, .int b)]) hx hb d_M_type_11 hl (by decide) rfl (fun ls hl => ?_)
      refine lv_iload_n hx hb d_M_type_13 rfl (lv_at hl 2 rfl) ?_
      refine lv_bipush (v := 10) hx hb d_M_type_14 (by decide) ?_
      refine lv_icmp_lt (tgt := 46) hx hb d_M_type_16 (by decide) (fun c2 => absurd ((nI_ltI (a := wn) (b := 10) (by omega) (by omega)).mp c2) (by omega)) (fun c2 => ?_)
      refine lv_iload_n hx hb d_M_type_19 rfl (lv_at hl 2 rfl) ?_
      refine lv_bipush (v := 18) hx hb d_M_type_20 (by decide) ?_
      refine lv_icmp_gt (tgt := 46) hx hb d_M_type_22 (by decide) (fun c3 => absurd ((nI_ltI (a := 18) (b := wn) (by omega) (by omega)).mp c3) (by omega)) (fun c3 => ?_)
      refine lv_aload_n hx hb d_M_type_25 rfl (lv_at hl 1 rfl) ?_
      refine lv_iload_n hx hb d_M_type_26 rfl (lv_at hl 3 rfl) ?_
      refine z_callR (va_runV (C := "ValueTreesModel") (As := [.int a]) (rest := []) ⟨hx, hb, hml, hown, hts⟩ (c_M_isType l D dT _ mm wd lf rt tc ty F sz Wk wz dg dc sh hM a) ⟨callB_of 1 hts (gI gd_up gd_c q584) rfl rfl rfl (ht _ q10) (ht _ q581) hd_M_isType ⟨Nat.le_of_ble_eq_true rfl, Nat.le_of_ble_eq_true rfl⟩, ht _ q583, ht _ qs13⟩ (z_preV hK (va_recv hK.1 hM.1 (ci := 10) (q0 := 0) rfl rfl)) rfl rfl hl.1 rfl (lv_room (Nat.le_of_ble_eq_true rfl)) d_M_type_27 ⟨Nat.zero_le _, Nat.zero_le _⟩) (fun v5 hv4 => ?_)
      have hv4 : v5 = .int (if 0 ≤ a ∧ a < nI tc then 1 else 0) := hv4
      rcases Classical.em (0 ≤ a ∧ a < nI tc) with hq6 | hq6
      · rw [if_pos hq6] at hv4
        subst hv4
        refine lv_if_eq (tgt := 46) hx hb d_M_type_30 (by decide) (fun c7 => absurd c7 (by decide)) (fun _ => ?_)
        obtain ⟨ka, hka, rfl⟩ := tN_of hq6 htc
        have eka1 := (hT ka hka).1
        have eka2 := (hT ka hka).2.1
        have eka3 := (hT ka hka).2.2
        have rka1 := (hO.2.2 ka hka).1
        have rka2 := (hO.2.2 ka hka).2.1
        refine lv_iload hx hb d_M_type_33 (lv_at hl 0 rfl) ?_
        refine lv_if_eq (tgt := 48) hx hb d_M_type_35 (by decide) (fun _ => ?_) (fun c8 => absurd c8 (by decide))
        refine lv_iload_n hx hb d_M_type_48 rfl (lv_at hl 2 rfl) ?_
        refine lv_bipush (v := 12) hx hb d_M_type_49 (by decide) ?_
        refine lv_icmp_eq (tgt := 66) hx hb d_M_type_51 (by decide) (fun c9 => ?_) (fun c9 => ?_)
        · have nc9 : wn = 12 := (nI_eq (a := wn) (b := 12) (by omega) (by omega)).mp c9
          refine lv_iconst (v := 1) hx hb d_M_type_66 (by decide) ?_
          refine lv_goto (tgt := 71) hx hb d_M_type_67 (by decide) ?_
          refine lv_istore (lv' := [(5, .int 1), (4, .int 0), (0, .ref (mm 0)), (1, .int (nI wn)), (2, .int (nI ka)), (3, .int b)]) hx hb d_M_type_71 hl (by decide) rfl (fun ls hl => ?_)
          refine lv_iload hx hb d_M_type_73 (lv_at hl 0 rfl) ?_
          refine lv_if_eq (tgt := 86) hx hb d_M_type_75 (by decide) (fun c10 => absurd c10 (by decide)) (fun _ => ?_)
          refine lv_aload_n hx hb d_M_type_78 rfl (lv_at hl 2 rfl) ?_
          refine lv_iload_n hx hb d_M_type_79 rfl (lv_at hl 4 rfl) ?_
          refine z_callR (va_runV (C := "ValueTreesModel") (As := [.int (nI ka)]) (rest := []) ⟨hx, hb, hml, hown, hts⟩ (c_M_isComparable l D dT _ mm wd lf rt tc ty F sz Wk wz dg dc sh hM tb hO hT 200 ka (by omega) (hO.2.2 _ (by omega)).2.2.2.2.2.2.2.2.1) ⟨callB_of 1 hts (gI gd_up gd_c q588) rfl rfl rfl (ht _ q10) (ht _ q585) hd_M_isComparable ⟨Nat.le_of_ble_eq_true rfl, Nat.le_of_ble_eq_true rfl⟩, ht _ q587, ht _ qs14⟩ (z_preV hK (va_recv hK.1 hM.1 (ci := 10) (q0 := 0) rfl rfl)) rfl rfl hl.1 rfl (lv_room (Nat.le_of_ble_eq_true rfl)) d_M_type_80 ⟨Nat.zero_le _, Nat.zero_le _⟩) (fun v12 hv11 => ?_)
          have hv11 : v12 = .int (if tC (tb ka) = true then 1 else 0) := hv11
          cases hq13 : tC (tb ka) with
          | false =>
            rw [hq13, if_neg (by decide)] at hv11
            subst hv11
            refine lv_if_eq (tgt := 114) hx hb d_M_type_83 (by decide) (fun _ => ?_) (fun c14 => absurd c14 (by decide))
            refine lv_iconst (v := (-1)) hx hb d_M_type_114 (by decide) ?_
            refine z_iretQ hx hb hr hlocks d_M_type_115 hS (Nat.le_refl _) (Nat.le_refl _) ?_
            rw [ty_none (by rw [row_1 htc (by omega) (by omega) hka]; exact if_neg (fun h9 => absurd (h9.1 (by omega)) (by rw [hq13]; decide)))]
            exact ⟨rfl, _, _, _, _, _, _, _, _, _, _, _, hM, hO, hT, hR, hWk⟩
          | true =>
            rw [hq13, if_pos rfl] at hv11
            subst hv11
            refine lv_if_eq (tgt := 114) hx hb d_M_type_83 (by decide) (fun c15 => absurd c15 (by decide)) (fun _ => ?_)
            refine lv_iconst (v := 1) hx hb d_M_type_86 (by decide) ?_
            refine lv_aload_n hx hb d_M_type_87 rfl (lv_at hl 2 rfl) ?_
            refine lv_iload_n hx hb d_M_type_88 rfl (lv_at hl 4 rfl) ?_
            refine z_callR (va_runV (C := "ValueTreesModel") (As := [.int (nI ka)]) (rest := [.int 1]) ⟨hx, hb, hml, hown, hts⟩ (c_M_parts l D dT _ mm wd lf rt tc ty F sz Wk wz dg dc sh hM tb hO hT 200 ka (by omega) (hO.2.2 _ (by omega)).2.2.2.2.2.2.2.2.1) ⟨callB_of 1 hts (gI gd_up gd_c q592) rfl rfl rfl (ht _ q10) (ht _ q589) hd_M_parts ⟨Nat.le_of_ble_eq_true rfl, Nat.le_of_ble_eq_true rfl⟩, ht _ q591, ht _ qs15⟩ (z_preV hK (va_recv hK.1 hM.1 (ci := 10) (q0 := 0) rfl rfl)) rfl rfl hl.1 rfl (lv_room (Nat.le_of_ble_eq_true rfl)) d_M_type_89 ⟨Nat.zero_le _, Nat.zero_le _⟩) (fun v17 hv16 => ?_)
            subst hv16
            have htp17 := (hO.2.2 ka (by omega)).2.2.2.2.2.2.2.2.1
            refine lv_iadd hx hb d_M_type_92 ?_
            rw [show ((1 + (nI (tP (tb ka)))) : Int32) = nI (1 + (tP (tb ka))) from nI_add 1 (tP (tb ka))]
            refine lv_iload hx hb d_M_type_93 (lv_at hl 1 rfl) ?_
            refine lv_if_eq (tgt := 106) hx hb d_M_type_95 (by decide) (fun _ => ?_) (fun c18 => absurd c18 (by decide))
            refine lv_iconst (v := 0) hx hb d_M_type_106 (by decide) ?_
            refine lv_iadd hx hb d_M_type_107 ?_
            rw [show (((nI (1 + (tP (tb ka)))) + 0) : Int32) = nI ((1 + (tP (tb ka))) + 0) from nI_add (1 + (tP (tb ka))) 0]
            refine lv_sipush (v := 200) hx hb d_M_type_108 (by decide) ?_
            refine lv_icmp_le (tgt := 116) hx hb d_M_type_111 (by decide) (fun c19 => ?_) (fun c19 => ?_)
            · have nc19 : ((1 + (tP (tb ka))) + 0) ≤ 200 := (nI_leI (a := ((1 + (tP (tb ka))) + 0)) (b := 200) (by omega) (by omega)).mp c19
              refine lv_iload hx hb d_M_type_116 (lv_at hl 1 rfl) ?_
              refine lv_if_eq (tgt := 125) hx hb d_M_type_118 (by decide) (fun _ => ?_) (fun c20 => absurd c20 (by decide))
              refine lv_iconst (v := (-1)) hx hb d_M_type_125 (by decide) ?_
              refine lv_istore (lv' := [(6, .int (-1)), (5, .int 1), (4, .int 0), (0, .ref (mm 0)), (1, .int (nI wn)), (2, .int (nI ka)), (3, .int b)]) hx hb d_M_type_126 hl (by decide) rfl (fun ls hl => ?_)
              have hrow9 : rowOK tb tc wn ka none := ⟨hw10, hw18, hka, ⟨fun _ => by omega, fun _ => rfl⟩, (fun k hk => by cases hk), by show 1 + tP (tb ka) + 0 ≤ 200; omega, (fun _ => hq13)⟩
              have eo : o_row tb tc (nI wn) (nI ka) b = some (mkR tb wn ka none) := by rw [row_1 htc (by omega) (by omega) hka]; exact if_pos ⟨(fun _ => hq13), by omega⟩
              refine lv_aload_n hx hb d_M_type_128 rfl (lv_at hl 3 rfl) ?_
              refine lv_iload_n hx hb d_M_type_129 rfl (lv_at hl 4 rfl) ?_
              refine lv_iload_n hx hb d_M_type_130 rfl (lv_at hl 5 rfl) ?_
              refine lv_iload hx hb d_M_type_131 (lv_at hl 0 rfl) ?_
              refine z_callR (va_runV (C := "ValueTreesModel") (As := [.int (nI wn), .int (nI ka), .int (-1)]) (rest := []) ⟨hx, hb, hml, hown, hts⟩ (c_M_find l D dT _ mm wd lf rt tc ty F sz Wk wz dg dc sh hM (nI wn) (nI ka) (-1) htc) ⟨callB_of 3 hts (gI gd_up gd_c q596) rfl rfl rfl (ht _ q10) (ht _ q593) hd_M_find ⟨Nat.le_of_ble_eq_true rfl, Nat.le_of_ble_eq_true rfl⟩, ht _ q595, ht _ qs16⟩ (z_preV hK (va_recv hK.1 hM.1 (ci := 10) (q0 := 0) rfl rfl)) rfl rfl hl.1 rfl (lv_room (Nat.le_of_ble_eq_true rfl)) d_M_type_133 ⟨Nat.zero_le _, Nat.zero_le _⟩) (fun v22 hv21 => ?_)
              rcases find_fork hO hT (w := wn) (L := some ka) (R := none) (by omega) (fun k hk => by cases hk; exact hka) (fun k hk => by cases hk) hv21 with ⟨tf, htf, hfd, hisf, rfl⟩ | ⟨hfd, rfl⟩
              · refine lv_if_ge (tgt := 154) hx hb d_M_type_136 (by decide) (fun c23 => ?_) (fun c23 => absurd (nI_pos' (by omega)) c23)
                refine lv_aload_n hx hb d_M_type_154 rfl (lv_at hl 3 rfl) ?_
                refine lv_iload_n hx hb d_M_type_155 rfl (lv_at hl 4 rfl) ?_
                refine lv_iload_n hx hb d_M_type_156 rfl (lv_at hl 5 rfl) ?_
                refine lv_iload hx hb d_M_type_157 (lv_at hl 0 rfl) ?_
                refine z_callQ (va_runV (C := "ValueTreesModel") (As := [.int (nI wn), .int (nI ka), .int (-1)]) (rest := []) ⟨hx, hb, hml, hown, hts⟩ (c_M_typeFor l D dT _ mm wd lf rt tc ty F sz Wk wz dg dc sh hM tb hO hT wn ka none hrow9 (fun h9 => by rw [hfd] at h9; cases h9)) ⟨callB_of 3 hts (gI gd_up gd_c q600) rfl rfl rfl (ht _ q10) (ht _ q597) hd_M_typeFor ⟨Nat.le_of_ble_eq_true rfl, Nat.le_of_ble_eq_true rfl⟩, ht _ q599, ht _ qs17⟩ (z_preV hK (va_recv hK.1 hM.1 (ci := 10) (q0 := 0) rfl rfl)) rfl rfl hl.1 rfl (lv_room (Nat.le_of_ble_eq_true rfl)) d_M_type_159 ⟨Nat.le_refl _, Nat.le_refl _⟩) hS (fun _ h9 => h9) (fun v25 H locs hv24 hz26 hf27 hS => ?_)
                obtain ⟨t9, tb2, tc2, wd2, lf2, rt2, hnum, rfl, hlt9, hO2, hT2, hext, htc2, hisT, hM⟩ := hv24
                refine W.eq (g2 := F0 m 162 ls [.int (nI t9)]) rfl ?_
                refine z_iretQ hx hb hr hlocks d_M_type_162 hS (Nat.le_refl _) (Nat.le_refl _) ?_
                rw [ty_some eo hnum]
                exact ⟨rfl, _, _, _, _, _, _, _, _, _, _, _, hM, hO2, hT2, mR_ext hO hext htc2 hR, hWk⟩
              · refine lv_if_ge (tgt := 154) hx hb d_M_type_136 (by decide) (fun c28 => absurd c28 (by decide)) (fun _ => ?_)
                refine lv_aload_n hx hb d_M_type_139 rfl (lv_at hl 3 rfl) ?_
                refine va_get (D := D) (ci := 10) (v := .int (nI tc)) (C := "ValueTreesModel") (T := T_M) (N := 12) hx hb ht in_M hown hK.1 hM.1 0 rfl rfl 3 (by decide) (ht _ q542) (fun _ h9 => h9) rfl d_M_type_140 ?_
                refine lv_sipush (v := 2000) hx hb d_M_type_143 (by decide) ?_
                refine lv_icmp_ne (tgt := 154) hx hb d_M_type_146 (by decide) (fun c29 => ?_) (fun c29 => ?_)
                · have nc29 : ¬ tc = 2000 := fun h9 => c29 ((nI_eq (a := tc) (b := 2000) (by omega) (by omega)).mpr h9)
                  refine lv_aload_n hx hb d_M_type_154 rfl (lv_at hl 3 rfl) ?_
                  refine lv_iload_n hx hb d_M_type_155 rfl (lv_at hl 4 rfl) ?_
                  refine lv_iload_n hx hb d_M_type_156 rfl (lv_at hl 5 rfl) ?_
                  refine lv_iload hx hb d_M_type_157 (lv_at hl 0 rfl) ?_
                  refine z_callQ (va_runV (C := "ValueTreesModel") (As := [.int (nI wn), .int (nI ka), .int (-1)]) (rest := []) ⟨hx, hb, hml, hown, hts⟩ (c_M_typeFor l D dT _ mm wd lf rt tc ty F sz Wk wz dg dc sh hM tb hO hT wn ka none hrow9 (fun _ => by omega)) ⟨callB_of 3 hts (gI gd_up gd_c q600) rfl rfl rfl (ht _ q10) (ht _ q597) hd_M_typeFor ⟨Nat.le_of_ble_eq_true rfl, Nat.le_of_ble_eq_true rfl⟩, ht _ q599, ht _ qs17⟩ (z_preV hK (va_recv hK.1 hM.1 (ci := 10) (q0 := 0) rfl rfl)) rfl rfl hl.1 rfl (lv_room (Nat.le_of_ble_eq_true rfl)) d_M_type_159 ⟨Nat.le_refl _, Nat.le_refl _⟩) hS (fun _ h9 => h9) (fun v31 H locs hv30 hz32 hf33 hS => ?_)
                  obtain ⟨t9, tb2, tc2, wd2, lf2, rt2, hnum, rfl, hlt9, hO2, hT2, hext, htc2, hisT, hM⟩ := hv30
                  refine W.eq (g2 := F0 m 162 ls [.int (nI t9)]) rfl ?_
                  refine z_iretQ hx hb hr hlocks d_M_type_162 hS (Nat.le_refl _) (Nat.le_refl _) ?_
                  rw [ty_some eo hnum]
                  exact ⟨rfl, _, _, _, _, _, _, _, _, _, _, _, hM, hO2, hT2, mR_ext hO hext htc2 hR, hWk⟩
                · have nc29 : tc = 2000 := (nI_eq (a := tc) (b := 2000) (by omega) (by omega)).mp c29
                  refine lv_bipush (v := (-2)) hx hb d_M_type_149 (by decide) ?_
                  refine lv_goto (tgt := 162) hx hb d_M_type_151 (by decide) ?_
                  refine z_iretQ hx hb hr hlocks d_M_type_162 hS (Nat.le_refl _) (Nat.le_refl _) ?_
                  rw [ty_full eo (numT_full hfd nc29)]
                  exact ⟨rfl, _, _, _, _, _, _, _, _, _, _, _, hM, hO, hT, hR, hWk⟩
            · have nc19 : ¬ ((1 + (tP (tb ka))) + 0) ≤ 200 := fun h9 => c19 ((nI_leI (a := ((1 + (tP (tb ka))) + 0)) (b := 200) (by omega) (by omega)).mpr h9)
              refine lv_iconst (v := (-1)) hx hb d_M_type_114 (by decide) ?_
              refine z_iretQ hx hb hr hlocks d_M_type_115 hS (Nat.le_refl _) (Nat.le_refl _) ?_
              rw [ty_none (by rw [row_1 htc (by omega) (by omega) hka]; exact if_neg (fun h9 => absurd h9.2 (by omega)))]
              exact ⟨rfl, _, _, _, _, _, _, _, _, _, _, _, hM, hO, hT, hR, hWk⟩
        · have nc9 : ¬ wn = 12 := fun h9 => c9 ((nI_eq (a := wn) (b := 12) (by omega) (by omega)).mpr h9)
          refine lv_iload_n hx hb d_M_type_54 rfl (lv_at hl 2 rfl) ?_
          refine lv_bipush (v := 15) hx hb d_M_type_55 (by decide) ?_
          refine lv_icmp_eq (tgt := 66) hx hb d_M_type_57 (by decide) (fun c34 => absurd ((nI_eq (a := wn) (b := 15) (by omega) (by omega)).mp c34) (by omega)) (fun c34 => ?_)
          refine lv_iload_n hx hb d_M_type_60 rfl (lv_at hl 2 rfl) ?_
          refine lv_bipush (v := 16) hx hb d_M_type_61 (by decide) ?_
          refine lv_icmp_ne (tgt := 70) hx hb d_M_type_63 (by decide) (fun c35 => ?_) (fun c35 => absurd ((nI_eq (a := wn) (b := 16) (by omega) (by omega)).mp c35) (by omega))
          refine lv_iconst (v := 0) hx hb d_M_type_70 (by decide) ?_
          refine lv_istore (lv' := [(5, .int 0), (4, .int 0), (0, .ref (mm 0)), (1, .int (nI wn)), (2, .int (nI ka)), (3, .int b)]) hx hb d_M_type_71 hl (by decide) rfl (fun ls hl => ?_)
          refine lv_iload hx hb d_M_type_73 (lv_at hl 0 rfl) ?_
          refine lv_if_eq (tgt := 86) hx hb d_M_type_75 (by decide) (fun _ => ?_) (fun c36 => absurd c36 (by decide))
          refine lv_iconst (v := 1) hx hb d_M_type_86 (by decide) ?_
          refine lv_aload_n hx hb d_M_type_87 rfl (lv_at hl 2 rfl) ?_
          refine lv_iload_n hx hb d_M_type_88 rfl (lv_at hl 4 rfl) ?_
          refine z_callR (va_runV (C := "ValueTreesModel") (As := [.int (nI ka)]) (rest := [.int 1]) ⟨hx, hb, hml, hown, hts⟩ (c_M_parts l D dT _ mm wd lf rt tc ty F sz Wk wz dg dc sh hM tb hO hT 200 ka (by omega) (hO.2.2 _ (by omega)).2.2.2.2.2.2.2.2.1) ⟨callB_of 1 hts (gI gd_up gd_c q592) rfl rfl rfl (ht _ q10) (ht _ q589) hd_M_parts ⟨Nat.le_of_ble_eq_true rfl, Nat.le_of_ble_eq_true rfl⟩, ht _ q591, ht _ qs15⟩ (z_preV hK (va_recv hK.1 hM.1 (ci := 10) (q0 := 0) rfl rfl)) rfl rfl hl.1 rfl (lv_room (Nat.le_of_ble_eq_true rfl)) d_M_type_89 ⟨Nat.zero_le _, Nat.zero_le _⟩) (fun v38 hv37 => ?_)
          subst hv37
          have htp38 := (hO.2.2 ka (by omega)).2.2.2.2.2.2.2.2.1
          refine lv_iadd hx hb d_M_type_92 ?_
          rw [show ((1 + (nI (tP (tb ka)))) : Int32) = nI (1 + (tP (tb ka))) from nI_add 1 (tP (tb ka))]
          refine lv_iload hx hb d_M_type_93 (lv_at hl 1 rfl) ?_
          refine lv_if_eq (tgt := 106) hx hb d_M_type_95 (by decide) (fun _ => ?_) (fun c39 => absurd c39 (by decide))
          refine lv_iconst (v := 0) hx hb d_M_type_106 (by decide) ?_
          refine lv_iadd hx hb d_M_type_107 ?_
          rw [show (((nI (1 + (tP (tb ka)))) + 0) : Int32) = nI ((1 + (tP (tb ka))) + 0) from nI_add (1 + (tP (tb ka))) 0]
          refine lv_sipush (v := 200) hx hb d_M_type_108 (by decide) ?_
          refine lv_icmp_le (tgt := 116) hx hb d_M_type_111 (by decide) (fun c40 => ?_) (fun c40 => ?_)
          · have nc40 : ((1 + (tP (tb ka))) + 0) ≤ 200 := (nI_leI (a := ((1 + (tP (tb ka))) + 0)) (b := 200) (by omega) (by omega)).mp c40
            refine lv_iload hx hb d_M_type_116 (lv_at hl 1 rfl) ?_
            refine lv_if_eq (tgt := 125) hx hb d_M_type_118 (by decide) (fun _ => ?_) (fun c41 => absurd c41 (by decide))
            refine lv_iconst (v := (-1)) hx hb d_M_type_125 (by decide) ?_
            refine lv_istore (lv' := [(6, .int (-1)), (5, .int 0), (4, .int 0), (0, .ref (mm 0)), (1, .int (nI wn)), (2, .int (nI ka)), (3, .int b)]) hx hb d_M_type_126 hl (by decide) rfl (fun ls hl => ?_)
            have hrow9 : rowOK tb tc wn ka none := ⟨hw10, hw18, hka, ⟨fun _ => by omega, fun _ => rfl⟩, (fun k hk => by cases hk), by show 1 + tP (tb ka) + 0 ≤ 200; omega, (fun h9 => absurd h9 (by omega))⟩
            have eo : o_row tb tc (nI wn) (nI ka) b = some (mkR tb wn ka none) := by rw [row_1 htc (by omega) (by omega) hka]; exact if_pos ⟨(fun h9 => absurd h9 (by omega)), by omega⟩
            refine lv_aload_n hx hb d_M_type_128 rfl (lv_at hl 3 rfl) ?_
            refine lv_iload_n hx hb d_M_type_129 rfl (lv_at hl 4 rfl) ?_
            refine lv_iload_n hx hb d_M_type_130 rfl (lv_at hl 5 rfl) ?_
            refine lv_iload hx hb d_M_type_131 (lv_at hl 0 rfl) ?_
            refine z_callR (va_runV (C := "ValueTreesModel") (As := [.int (nI wn), .int (nI ka), .int (-1)]) (rest := []) ⟨hx, hb, hml, hown, hts⟩ (c_M_find l D dT _ mm wd lf rt tc ty F sz Wk wz dg dc sh hM (nI wn) (nI ka) (-1) htc) ⟨callB_of 3 hts (gI gd_up gd_c q596) rfl rfl rfl (ht _ q10) (ht _ q593) hd_M_find ⟨Nat.le_of_ble_eq_true rfl, Nat.le_of_ble_eq_true rfl⟩, ht _ q595, ht _ qs16⟩ (z_preV hK (va_recv hK.1 hM.1 (ci := 10) (q0 := 0) rfl rfl)) rfl rfl hl.1 rfl (lv_room (Nat.le_of_ble_eq_true rfl)) d_M_type_133 ⟨Nat.zero_le _, Nat.zero_le _⟩) (fun v43 hv42 => ?_)
            rcases find_fork hO hT (w := wn) (L := some ka) (R := none) (by omega) (fun k hk => by cases hk; exact hka) (fun k hk => by cases hk) hv42 with ⟨tf, htf, hfd, hisf, rfl⟩ | ⟨hfd, rfl⟩
            · refine lv_if_ge (tgt := 154) hx hb d_M_type_136 (by decide) (fun c44 => ?_) (fun c44 => absurd (nI_pos' (by omega)) c44)
              refine lv_aload_n hx hb d_M_type_154 rfl (lv_at hl 3 rfl) ?_
              refine lv_iload_n hx hb d_M_type_155 rfl (lv_at hl 4 rfl) ?_
              refine lv_iload_n hx hb d_M_type_156 rfl (lv_at hl 5 rfl) ?_
              refine lv_iload hx hb d_M_type_157 (lv_at hl 0 rfl) ?_
              refine z_callQ (va_runV (C := "ValueTreesModel") (As := [.int (nI wn), .int (nI ka), .int (-1)]) (rest := []) ⟨hx, hb, hml, hown, hts⟩ (c_M_typeFor l D dT _ mm wd lf rt tc ty F sz Wk wz dg dc sh hM tb hO hT wn ka none hrow9 (fun h9 => by rw [hfd] at h9; cases h9)) ⟨callB_of 3 hts (gI gd_up gd_c q600) rfl rfl rfl (ht _ q10) (ht _ q597) hd_M_typeFor ⟨Nat.le_of_ble_eq_true rfl, Nat.le_of_ble_eq_true rfl⟩, ht _ q599, ht _ qs17⟩ (z_preV hK (va_recv hK.1 hM.1 (ci := 10) (q0 := 0) rfl rfl)) rfl rfl hl.1 rfl (lv_room (Nat.le_of_ble_eq_true rfl)) d_M_type_159 ⟨Nat.le_refl _, Nat.le_refl _⟩) hS (fun _ h9 => h9) (fun v46 H locs hv45 hz47 hf48 hS => ?_)
              obtain ⟨t9, tb2, tc2, wd2, lf2, rt2, hnum, rfl, hlt9, hO2, hT2, hext, htc2, hisT, hM⟩ := hv45
              refine W.eq (g2 := F0 m 162 ls [.int (nI t9)]) rfl ?_
              refine z_iretQ hx hb hr hlocks d_M_type_162 hS (Nat.le_refl _) (Nat.le_refl _) ?_
              rw [ty_some eo hnum]
              exact ⟨rfl, _, _, _, _, _, _, _, _, _, _, _, hM, hO2, hT2, mR_ext hO hext htc2 hR, hWk⟩
            · refine lv_if_ge (tgt := 154) hx hb d_M_type_136 (by decide) (fun c49 => absurd c49 (by decide)) (fun _ => ?_)
              refine lv_aload_n hx hb d_M_type_139 rfl (lv_at hl 3 rfl) ?_
              refine va_get (D := D) (ci := 10) (v := .int (nI tc)) (C := "ValueTreesModel") (T := T_M) (N := 12) hx hb ht in_M hown hK.1 hM.1 0 rfl rfl 3 (by decide) (ht _ q542) (fun _ h9 => h9) rfl d_M_type_140 ?_
              refine lv_sipush (v := 2000) hx hb d_M_type_143 (by decide) ?_
              refine lv_icmp_ne (tgt := 154) hx hb d_M_type_146 (by decide) (fun c50 => ?_) (fun c50 => ?_)
              · have nc50 : ¬ tc = 2000 := fun h9 => c50 ((nI_eq (a := tc) (b := 2000) (by omega) (by omega)).mpr h9)
                refine lv_aload_n hx hb d_M_type_154 rfl (lv_at hl 3 rfl) ?_
                refine lv_iload_n hx hb d_M_type_155 rfl (lv_at hl 4 rfl) ?_
                refine lv_iload_n hx hb d_M_type_156 rfl (lv_at hl 5 rfl) ?_
                refine lv_iload hx hb d_M_type_157 (lv_at hl 0 rfl) ?_
                refine z_callQ (va_runV (C := "ValueTreesModel") (As := [.int (nI wn), .int (nI ka), .int (-1)]) (rest := []) ⟨hx, hb, hml, hown, hts⟩ (c_M_typeFor l D dT _ mm wd lf rt tc ty F sz Wk wz dg dc sh hM tb hO hT wn ka none hrow9 (fun _ => by omega)) ⟨callB_of 3 hts (gI gd_up gd_c q600) rfl rfl rfl (ht _ q10) (ht _ q597) hd_M_typeFor ⟨Nat.le_of_ble_eq_true rfl, Nat.le_of_ble_eq_true rfl⟩, ht _ q599, ht _ qs17⟩ (z_preV hK (va_recv hK.1 hM.1 (ci := 10) (q0 := 0) rfl rfl)) rfl rfl hl.1 rfl (lv_room (Nat.le_of_ble_eq_true rfl)) d_M_type_159 ⟨Nat.le_refl _, Nat.le_refl _⟩) hS (fun _ h9 => h9) (fun v52 H locs hv51 hz53 hf54 hS => ?_)
                obtain ⟨t9, tb2, tc2, wd2, lf2, rt2, hnum, rfl, hlt9, hO2, hT2, hext, htc2, hisT, hM⟩ := hv51
                refine W.eq (g2 := F0 m 162 ls [.int (nI t9)]) rfl ?_
                refine z_iretQ hx hb hr hlocks d_M_type_162 hS (Nat.le_refl _) (Nat.le_refl _) ?_
                rw [ty_some eo hnum]
                exact ⟨rfl, _, _, _, _, _, _, _, _, _, _, _, hM, hO2, hT2, mR_ext hO hext htc2 hR, hWk⟩
              · have nc50 : tc = 2000 := (nI_eq (a := tc) (b := 2000) (by omega) (by omega)).mp c50
                refine lv_bipush (v := (-2)) hx hb d_M_type_149 (by decide) ?_
                refine lv_goto (tgt := 162) hx hb d_M_type_151 (by decide) ?_
                refine z_iretQ hx hb hr hlocks d_M_type_162 hS (Nat.le_refl _) (Nat.le_refl _) ?_
                rw [ty_full eo (numT_full hfd nc50)]
                exact ⟨rfl, _, _, _, _, _, _, _, _, _, _, _, hM, hO, hT, hR, hWk⟩
          · have nc40 : ¬ ((1 + (tP (tb ka))) + 0) ≤ 200 := fun h9 => c40 ((nI_leI (a := ((1 + (tP (tb ka))) + 0)) (b := 200) (by omega) (by omega)).mpr h9)
            refine lv_iconst (v := (-1)) hx hb d_M_type_114 (by decide) ?_
            refine z_iretQ hx hb hr hlocks d_M_type_115 hS (Nat.le_refl _) (Nat.le_refl _) ?_
            rw [ty_none (by rw [row_1 htc (by omega) (by omega) hka]; exact if_neg (fun h9 => absurd h9.2 (by omega)))]
            exact ⟨rfl, _, _, _, _, _, _, _, _, _, _, _, hM, hO, hT, hR, hWk⟩
      · rw [if_neg hq6] at hv4
        subst hv4
        refine lv_if_eq (tgt := 46) hx hb d_M_type_30 (by decide) (fun _ => ?_) (fun c55 => absurd c55 (by decide))
        refine lv_iconst (v := (-1)) hx hb d_M_type_46 (by decide) ?_
        refine z_iretQ hx hb hr hlocks d_M_type_47 hS (Nat.le_refl _) (Nat.le_refl _) ?_
        rw [ty_none (row_a (tN_none hq6))]
        exact ⟨rfl, _, _, _, _, _, _, _, _, _, _, _, hM, hO, hT, hR, hWk⟩
    · have nc1 : ¬ wn < 14 := fun h9 => c1 ((nI_ltI (a := wn) (b := 14) (by omega) (by omega)).mpr h9)
      refine lv_iconst (v := 1) hx hb d_M_type_6 (by decide) ?_
      refine lv_goto (tgt := 11) hx hb d_M_type_7 (by decide) ?_
      refine lv_istore (lv' := [(4, .int 1), (0, .ref (mm 0)), (1, .int (nI wn)), (2, .int a), (3, .int b)]) hx hb d_M_type_11 hl (by decide) rfl (fun ls hl => ?_)
      refine lv_iload_n hx hb d_M_type_13 rfl (lv_at hl 2 rfl) ?_
      refine lv_bipush (v := 10) hx hb d_M_type_14 (by decide) ?_
      refine lv_icmp_lt (tgt := 46) hx hb d_M_type_16 (by decide) (fun c56 => absurd ((nI_ltI (a := wn) (b := 10) (by omega) (by omega)).mp c56) (by omega)) (fun c56 => ?_)
      refine lv_iload_n hx hb d_M_type_19 rfl (lv_at hl 2 rfl) ?_
      refine lv_bipush (v := 18) hx hb d_M_type_20 (by decide) ?_
      refine lv_icmp_gt (tgt := 46) hx hb d_M_type_22 (by decide) (fun c57 => absurd ((nI_ltI (a := 18) (b := wn) (by omega) (by omega)).mp c57) (by omega)) (fun c57 => ?_)
      refine lv_aload_n hx hb d_M_type_25 rfl (lv_at hl 1 rfl) ?_
      refine lv_iload_n hx hb d_M_type_26 rfl (lv_at hl 3 rfl) ?_
      refine z_callR (va_runV (C := "ValueTreesModel") (As := [.int a]) (rest := []) ⟨hx, hb, hml, hown, hts⟩ (c_M_isType l D dT _ mm wd lf rt tc ty F sz Wk wz dg dc sh hM a) ⟨callB_of 1 hts (gI gd_up gd_c q584) rfl rfl rfl (ht _ q10) (ht _ q581) hd_M_isType ⟨Nat.le_of_ble_eq_true rfl, Nat.le_of_ble_eq_true rfl⟩, ht _ q583, ht _ qs13⟩ (z_preV hK (va_recv hK.1 hM.1 (ci := 10) (q0 := 0) rfl rfl)) rfl rfl hl.1 rfl (lv_room (Nat.le_of_ble_eq_true rfl)) d_M_type_27 ⟨Nat.zero_le _, Nat.zero_le _⟩) (fun v59 hv58 => ?_)
      have hv58 : v59 = .int (if 0 ≤ a ∧ a < nI tc then 1 else 0) := hv58
      rcases Classical.em (0 ≤ a ∧ a < nI tc) with hq60 | hq60
      · rw [if_pos hq60] at hv58
        subst hv58
        refine lv_if_eq (tgt := 46) hx hb d_M_type_30 (by decide) (fun c61 => absurd c61 (by decide)) (fun _ => ?_)
        obtain ⟨ka, hka, rfl⟩ := tN_of hq60 htc
        have eka1 := (hT ka hka).1
        have eka2 := (hT ka hka).2.1
        have eka3 := (hT ka hka).2.2
        have rka1 := (hO.2.2 ka hka).1
        have rka2 := (hO.2.2 ka hka).2.1
        refine lv_iload hx hb d_M_type_33 (lv_at hl 0 rfl) ?_
        refine lv_if_eq (tgt := 48) hx hb d_M_type_35 (by decide) (fun c62 => absurd c62 (by decide)) (fun _ => ?_)
        refine lv_aload_n hx hb d_M_type_38 rfl (lv_at hl 1 rfl) ?_
        refine lv_iload_n hx hb d_M_type_39 rfl (lv_at hl 4 rfl) ?_
        refine z_callR (va_runV (C := "ValueTreesModel") (As := [.int b]) (rest := []) ⟨hx, hb, hml, hown, hts⟩ (c_M_isType l D dT _ mm wd lf rt tc ty F sz Wk wz dg dc sh hM b) ⟨callB_of 1 hts (gI gd_up gd_c q584) rfl rfl rfl (ht _ q10) (ht _ q581) hd_M_isType ⟨Nat.le_of_ble_eq_true rfl, Nat.le_of_ble_eq_true rfl⟩, ht _ q583, ht _ qs13⟩ (z_preV hK (va_recv hK.1 hM.1 (ci := 10) (q0 := 0) rfl rfl)) rfl rfl hl.1 rfl (lv_room (Nat.le_of_ble_eq_true rfl)) d_M_type_40 ⟨Nat.zero_le _, Nat.zero_le _⟩) (fun v64 hv63 => ?_)
        have hv63 : v64 = .int (if 0 ≤ b ∧ b < nI tc then 1 else 0) := hv63
        rcases Classical.em (0 ≤ b ∧ b < nI tc) with hq65 | hq65
        · rw [if_pos hq65] at hv63
          subst hv63
          refine lv_if_ne (tgt := 48) hx hb d_M_type_43 (by decide) (fun _ => ?_) (fun c66 => absurd c66 (by decide))
          obtain ⟨kb, hkb, rfl⟩ := tN_of hq65 htc
          have ekb1 := (hT kb hkb).1
          have ekb2 := (hT kb hkb).2.1
          have ekb3 := (hT kb hkb).2.2
          have rkb1 := (hO.2.2 kb hkb).1
          have rkb2 := (hO.2.2 kb hkb).2.1
          refine lv_iload_n hx hb d_M_type_48 rfl (lv_at hl 2 rfl) ?_
          refine lv_bipush (v := 12) hx hb d_M_type_49 (by decide) ?_
          refine lv_icmp_eq (tgt := 66) hx hb d_M_type_51 (by decide) (fun c67 => absurd ((nI_eq (a := wn) (b := 12) (by omega) (by omega)).mp c67) (by omega)) (fun c67 => ?_)
          refine lv_iload_n hx hb d_M_type_54 rfl (lv_at hl 2 rfl) ?_
          refine lv_bipush (v := 15) hx hb d_M_type_55 (by decide) ?_
          refine lv_icmp_eq (tgt := 66) hx hb d_M_type_57 (by decide) (fun c68 => ?_) (fun c68 => ?_)
          · have nc68 : wn = 15 := (nI_eq (a := wn) (b := 15) (by omega) (by omega)).mp c68
            refine lv_iconst (v := 1) hx hb d_M_type_66 (by decide) ?_
            refine lv_goto (tgt := 71) hx hb d_M_type_67 (by decide) ?_
            refine lv_istore (lv' := [(5, .int 1), (4, .int 1), (0, .ref (mm 0)), (1, .int (nI wn)), (2, .int (nI ka)), (3, .int (nI kb))]) hx hb d_M_type_71 hl (by decide) rfl (fun ls hl => ?_)
            refine lv_iload hx hb d_M_type_73 (lv_at hl 0 rfl) ?_
            refine lv_if_eq (tgt := 86) hx hb d_M_type_75 (by decide) (fun c69 => absurd c69 (by decide)) (fun _ => ?_)
            refine lv_aload_n hx hb d_M_type_78 rfl (lv_at hl 2 rfl) ?_
            refine lv_iload_n hx hb d_M_type_79 rfl (lv_at hl 4 rfl) ?_
            refine z_callR (va_runV (C := "ValueTreesModel") (As := [.int (nI ka)]) (rest := []) ⟨hx, hb, hml, hown, hts⟩ (c_M_isComparable l D dT _ mm wd lf rt tc ty F sz Wk wz dg dc sh hM tb hO hT 200 ka (by omega) (hO.2.2 _ (by omega)).2.2.2.2.2.2.2.2.1) ⟨callB_of 1 hts (gI gd_up gd_c q588) rfl rfl rfl (ht _ q10) (ht _ q585) hd_M_isComparable ⟨Nat.le_of_ble_eq_true rfl, Nat.le_of_ble_eq_true rfl⟩, ht _ q587, ht _ qs14⟩ (z_preV hK (va_recv hK.1 hM.1 (ci := 10) (q0 := 0) rfl rfl)) rfl rfl hl.1 rfl (lv_room (Nat.le_of_ble_eq_true rfl)) d_M_type_80 ⟨Nat.zero_le _, Nat.zero_le _⟩) (fun v71 hv70 => ?_)
            have hv70 : v71 = .int (if tC (tb ka) = true then 1 else 0) := hv70
            cases hq72 : tC (tb ka) with
            | false =>
              rw [hq72, if_neg (by decide)] at hv70
              subst hv70
              refine lv_if_eq (tgt := 114) hx hb d_M_type_83 (by decide) (fun _ => ?_) (fun c73 => absurd c73 (by decide))
              refine lv_iconst (v := (-1)) hx hb d_M_type_114 (by decide) ?_
              refine z_iretQ hx hb hr hlocks d_M_type_115 hS (Nat.le_refl _) (Nat.le_refl _) ?_
              rw [ty_none (by rw [row_2 htc (by omega) (by omega) hka hkb]; exact if_neg (fun h9 => absurd (h9.1 (by omega)) (by rw [hq72]; decide)))]
              exact ⟨rfl, _, _, _, _, _, _, _, _, _, _, _, hM, hO, hT, hR, hWk⟩
            | true =>
              rw [hq72, if_pos rfl] at hv70
              subst hv70
              refine lv_if_eq (tgt := 114) hx hb d_M_type_83 (by decide) (fun c74 => absurd c74 (by decide)) (fun _ => ?_)
              refine lv_iconst (v := 1) hx hb d_M_type_86 (by decide) ?_
              refine lv_aload_n hx hb d_M_type_87 rfl (lv_at hl 2 rfl) ?_
              refine lv_iload_n hx hb d_M_type_88 rfl (lv_at hl 4 rfl) ?_
              refine z_callR (va_runV (C := "ValueTreesModel") (As := [.int (nI ka)]) (rest := [.int 1]) ⟨hx, hb, hml, hown, hts⟩ (c_M_parts l D dT _ mm wd lf rt tc ty F sz Wk wz dg dc sh hM tb hO hT 200 ka (by omega) (hO.2.2 _ (by omega)).2.2.2.2.2.2.2.2.1) ⟨callB_of 1 hts (gI gd_up gd_c q592) rfl rfl rfl (ht _ q10) (ht _ q589) hd_M_parts ⟨Nat.le_of_ble_eq_true rfl, Nat.le_of_ble_eq_true rfl⟩, ht _ q591, ht _ qs15⟩ (z_preV hK (va_recv hK.1 hM.1 (ci := 10) (q0 := 0) rfl rfl)) rfl rfl hl.1 rfl (lv_room (Nat.le_of_ble_eq_true rfl)) d_M_type_89 ⟨Nat.zero_le _, Nat.zero_le _⟩) (fun v76 hv75 => ?_)
              subst hv75
              have htp76 := (hO.2.2 ka (by omega)).2.2.2.2.2.2.2.2.1
              refine lv_iadd hx hb d_M_type_92 ?_
              rw [show ((1 + (nI (tP (tb ka)))) : Int32) = nI (1 + (tP (tb ka))) from nI_add 1 (tP (tb ka))]
              refine lv_iload hx hb d_M_type_93 (lv_at hl 1 rfl) ?_
              refine lv_if_eq (tgt := 106) hx hb d_M_type_95 (by decide) (fun c77 => absurd c77 (by decide)) (fun _ => ?_)
              refine lv_aload_n hx hb d_M_type_98 rfl (lv_at hl 2 rfl) ?_
              refine lv_iload_n hx hb d_M_type_99 rfl (lv_at hl 5 rfl) ?_
              refine z_callR (va_runV (C := "ValueTreesModel") (As := [.int (nI kb)]) (rest := [.int (nI (1 + (tP (tb ka))))]) ⟨hx, hb, hml, hown, hts⟩ (c_M_parts l D dT _ mm wd lf rt tc ty F sz Wk wz dg dc sh hM tb hO hT 200 kb (by omega) (hO.2.2 _ (by omega)).2.2.2.2.2.2.2.2.1) ⟨callB_of 1 hts (gI gd_up gd_c q592) rfl rfl rfl (ht _ q10) (ht _ q589) hd_M_parts ⟨Nat.le_of_ble_eq_true rfl, Nat.le_of_ble_eq_true rfl⟩, ht _ q591, ht _ qs15⟩ (z_preV hK (va_recv hK.1 hM.1 (ci := 10) (q0 := 0) rfl rfl)) rfl rfl hl.1 rfl (lv_room (Nat.le_of_ble_eq_true rfl)) d_M_type_100 ⟨Nat.zero_le _, Nat.zero_le _⟩) (fun v79 hv78 => ?_)
              subst hv78
              have htp79 := (hO.2.2 kb (by omega)).2.2.2.2.2.2.2.2.1
              refine lv_goto (tgt := 107) hx hb d_M_type_103 (by decide) ?_
              refine lv_iadd hx hb d_M_type_107 ?_
              rw [show (((nI (1 + (tP (tb ka)))) + (nI (tP (tb kb)))) : Int32) = nI ((1 + (tP (tb ka))) + (tP (tb kb))) from nI_add (1 + (tP (tb ka))) (tP (tb kb))]
              refine lv_sipush (v := 200) hx hb d_M_type_108 (by decide) ?_
              refine lv_icmp_le (tgt := 116) hx hb d_M_type_111 (by decide) (fun c80 => ?_) (fun c80 => ?_)
              · have nc80 : ((1 + (tP (tb ka))) + (tP (tb kb))) ≤ 200 := (nI_leI (a := ((1 + (tP (tb ka))) + (tP (tb kb)))) (b := 200) (by omega) (by omega)).mp c80
                refine lv_iload hx hb d_M_type_116 (lv_at hl 1 rfl) ?_
                refine lv_if_eq (tgt := 125) hx hb d_M_type_118 (by decide) (fun c81 => absurd c81 (by decide)) (fun _ => ?_)
                refine lv_iload_n hx hb d_M_type_121 rfl (lv_at hl 5 rfl) ?_
                refine lv_goto (tgt := 126) hx hb d_M_type_122 (by decide) ?_
                refine lv_istore (lv' := [(6, .int (nI kb)), (5, .int 1), (4, .int 1), (0, .ref (mm 0)), (1, .int (nI wn)), (2, .int (nI ka)), (3, .int (nI kb))]) hx hb d_M_type_126 hl (by decide) rfl (fun ls hl => ?_)
                have hrow9 : rowOK tb tc wn ka (some kb) := ⟨hw10, hw18, hka, ⟨(fun h9 => by cases h9), fun h9 => absurd h9 (by omega)⟩, (fun k hk => by cases hk; exact hkb), by show 1 + tP (tb ka) + tP (tb kb) ≤ 200; omega, (fun _ => hq72)⟩
                have eo : o_row tb tc (nI wn) (nI ka) (nI kb) = some (mkR tb wn ka (some kb)) := by rw [row_2 htc (by omega) (by omega) hka hkb]; exact if_pos ⟨(fun _ => hq72), by omega⟩
                refine lv_aload_n hx hb d_M_type_128 rfl (lv_at hl 3 rfl) ?_
                refine lv_iload_n hx hb d_M_type_129 rfl (lv_at hl 4 rfl) ?_
                refine lv_iload_n hx hb d_M_type_130 rfl (lv_at hl 5 rfl) ?_
                refine lv_iload hx hb d_M_type_131 (lv_at hl 0 rfl) ?_
                refine z_callR (va_runV (C := "ValueTreesModel") (As := [.int (nI wn), .int (nI ka), .int (nI kb)]) (rest := []) ⟨hx, hb, hml, hown, hts⟩ (c_M_find l D dT _ mm wd lf rt tc ty F sz Wk wz dg dc sh hM (nI wn) (nI ka) (nI kb) htc) ⟨callB_of 3 hts (gI gd_up gd_c q596) rfl rfl rfl (ht _ q10) (ht _ q593) hd_M_find ⟨Nat.le_of_ble_eq_true rfl, Nat.le_of_ble_eq_true rfl⟩, ht _ q595, ht _ qs16⟩ (z_preV hK (va_recv hK.1 hM.1 (ci := 10) (q0 := 0) rfl rfl)) rfl rfl hl.1 rfl (lv_room (Nat.le_of_ble_eq_true rfl)) d_M_type_133 ⟨Nat.zero_le _, Nat.zero_le _⟩) (fun v83 hv82 => ?_)
                rcases find_fork hO hT (w := wn) (L := some ka) (R := some kb) (by omega) (fun k hk => by cases hk; exact hka) (fun k hk => by cases hk; exact hkb) hv82 with ⟨tf, htf, hfd, hisf, rfl⟩ | ⟨hfd, rfl⟩
                · refine lv_if_ge (tgt := 154) hx hb d_M_type_136 (by decide) (fun c84 => ?_) (fun c84 => absurd (nI_pos' (by omega)) c84)
                  refine lv_aload_n hx hb d_M_type_154 rfl (lv_at hl 3 rfl) ?_
                  refine lv_iload_n hx hb d_M_type_155 rfl (lv_at hl 4 rfl) ?_
                  refine lv_iload_n hx hb d_M_type_156 rfl (lv_at hl 5 rfl) ?_
                  refine lv_iload hx hb d_M_type_157 (lv_at hl 0 rfl) ?_
                  refine z_callQ (va_runV (C := "ValueTreesModel") (As := [.int (nI wn), .int (nI ka), .int (nI kb)]) (rest := []) ⟨hx, hb, hml, hown, hts⟩ (c_M_typeFor l D dT _ mm wd lf rt tc ty F sz Wk wz dg dc sh hM tb hO hT wn ka (some kb) hrow9 (fun h9 => by rw [hfd] at h9; cases h9)) ⟨callB_of 3 hts (gI gd_up gd_c q600) rfl rfl rfl (ht _ q10) (ht _ q597) hd_M_typeFor ⟨Nat.le_of_ble_eq_true rfl, Nat.le_of_ble_eq_true rfl⟩, ht _ q599, ht _ qs17⟩ (z_preV hK (va_recv hK.1 hM.1 (ci := 10) (q0 := 0) rfl rfl)) rfl rfl hl.1 rfl (lv_room (Nat.le_of_ble_eq_true rfl)) d_M_type_159 ⟨Nat.le_refl _, Nat.le_refl _⟩) hS (fun _ h9 => h9) (fun v86 H locs hv85 hz87 hf88 hS => ?_)
                  obtain ⟨t9, tb2, tc2, wd2, lf2, rt2, hnum, rfl, hlt9, hO2, hT2, hext, htc2, hisT, hM⟩ := hv85
                  refine W.eq (g2 := F0 m 162 ls [.int (nI t9)]) rfl ?_
                  refine z_iretQ hx hb hr hlocks d_M_type_162 hS (Nat.le_refl _) (Nat.le_refl _) ?_
                  rw [ty_some eo hnum]
                  exact ⟨rfl, _, _, _, _, _, _, _, _, _, _, _, hM, hO2, hT2, mR_ext hO hext htc2 hR, hWk⟩
                · refine lv_if_ge (tgt := 154) hx hb d_M_type_136 (by decide) (fun c89 => absurd c89 (by decide)) (fun _ => ?_)
                  refine lv_aload_n hx hb d_M_type_139 rfl (lv_at hl 3 rfl) ?_
                  refine va_get (D := D) (ci := 10) (v := .int (nI tc)) (C := "ValueTreesModel") (T := T_M) (N := 12) hx hb ht in_M hown hK.1 hM.1 0 rfl rfl 3 (by decide) (ht _ q542) (fun _ h9 => h9) rfl d_M_type_140 ?_
                  refine lv_sipush (v := 2000) hx hb d_M_type_143 (by decide) ?_
                  refine lv_icmp_ne (tgt := 154) hx hb d_M_type_146 (by decide) (fun c90 => ?_) (fun c90 => ?_)
                  · have nc90 : ¬ tc = 2000 := fun h9 => c90 ((nI_eq (a := tc) (b := 2000) (by omega) (by omega)).mpr h9)
                    refine lv_aload_n hx hb d_M_type_154 rfl (lv_at hl 3 rfl) ?_
                    refine lv_iload_n hx hb d_M_type_155 rfl (lv_at hl 4 rfl) ?_
                    refine lv_iload_n hx hb d_M_type_156 rfl (lv_at hl 5 rfl) ?_
                    refine lv_iload hx hb d_M_type_157 (lv_at hl 0 rfl) ?_
                    refine z_callQ (va_runV (C := "ValueTreesModel") (As := [.int (nI wn), .int (nI ka), .int (nI kb)]) (rest := []) ⟨hx, hb, hml, hown, hts⟩ (c_M_typeFor l D dT _ mm wd lf rt tc ty F sz Wk wz dg dc sh hM tb hO hT wn ka (some kb) hrow9 (fun _ => by omega)) ⟨callB_of 3 hts (gI gd_up gd_c q600) rfl rfl rfl (ht _ q10) (ht _ q597) hd_M_typeFor ⟨Nat.le_of_ble_eq_true rfl, Nat.le_of_ble_eq_true rfl⟩, ht _ q599, ht _ qs17⟩ (z_preV hK (va_recv hK.1 hM.1 (ci := 10) (q0 := 0) rfl rfl)) rfl rfl hl.1 rfl (lv_room (Nat.le_of_ble_eq_true rfl)) d_M_type_159 ⟨Nat.le_refl _, Nat.le_refl _⟩) hS (fun _ h9 => h9) (fun v92 H locs hv91 hz93 hf94 hS => ?_)
                    obtain ⟨t9, tb2, tc2, wd2, lf2, rt2, hnum, rfl, hlt9, hO2, hT2, hext, htc2, hisT, hM⟩ := hv91
                    refine W.eq (g2 := F0 m 162 ls [.int (nI t9)]) rfl ?_
                    refine z_iretQ hx hb hr hlocks d_M_type_162 hS (Nat.le_refl _) (Nat.le_refl _) ?_
                    rw [ty_some eo hnum]
                    exact ⟨rfl, _, _, _, _, _, _, _, _, _, _, _, hM, hO2, hT2, mR_ext hO hext htc2 hR, hWk⟩
                  · have nc90 : tc = 2000 := (nI_eq (a := tc) (b := 2000) (by omega) (by omega)).mp c90
                    refine lv_bipush (v := (-2)) hx hb d_M_type_149 (by decide) ?_
                    refine lv_goto (tgt := 162) hx hb d_M_type_151 (by decide) ?_
                    refine z_iretQ hx hb hr hlocks d_M_type_162 hS (Nat.le_refl _) (Nat.le_refl _) ?_
                    rw [ty_full eo (numT_full hfd nc90)]
                    exact ⟨rfl, _, _, _, _, _, _, _, _, _, _, _, hM, hO, hT, hR, hWk⟩
              · have nc80 : ¬ ((1 + (tP (tb ka))) + (tP (tb kb))) ≤ 200 := fun h9 => c80 ((nI_leI (a := ((1 + (tP (tb ka))) + (tP (tb kb)))) (b := 200) (by omega) (by omega)).mpr h9)
                refine lv_iconst (v := (-1)) hx hb d_M_type_114 (by decide) ?_
                refine z_iretQ hx hb hr hlocks d_M_type_115 hS (Nat.le_refl _) (Nat.le_refl _) ?_
                rw [ty_none (by rw [row_2 htc (by omega) (by omega) hka hkb]; exact if_neg (fun h9 => absurd h9.2 (by omega)))]
                exact ⟨rfl, _, _, _, _, _, _, _, _, _, _, _, hM, hO, hT, hR, hWk⟩
          · have nc68 : ¬ wn = 15 := fun h9 => c68 ((nI_eq (a := wn) (b := 15) (by omega) (by omega)).mpr h9)
            refine lv_iload_n hx hb d_M_type_60 rfl (lv_at hl 2 rfl) ?_
            refine lv_bipush (v := 16) hx hb d_M_type_61 (by decide) ?_
            refine lv_icmp_ne (tgt := 70) hx hb d_M_type_63 (by decide) (fun c95 => ?_) (fun c95 => ?_)
            · have nc95 : ¬ wn = 16 := fun h9 => c95 ((nI_eq (a := wn) (b := 16) (by omega) (by omega)).mpr h9)
              refine lv_iconst (v := 0) hx hb d_M_type_70 (by decide) ?_
              refine lv_istore (lv' := [(5, .int 0), (4, .int 1), (0, .ref (mm 0)), (1, .int (nI wn)), (2, .int (nI ka)), (3, .int (nI kb))]) hx hb d_M_type_71 hl (by decide) rfl (fun ls hl => ?_)
              refine lv_iload hx hb d_M_type_73 (lv_at hl 0 rfl) ?_
              refine lv_if_eq (tgt := 86) hx hb d_M_type_75 (by decide) (fun _ => ?_) (fun c96 => absurd c96 (by decide))
              refine lv_iconst (v := 1) hx hb d_M_type_86 (by decide) ?_
              refine lv_aload_n hx hb d_M_type_87 rfl (lv_at hl 2 rfl) ?_
              refine lv_iload_n hx hb d_M_type_88 rfl (lv_at hl 4 rfl) ?_
              refine z_callR (va_runV (C := "ValueTreesModel") (As := [.int (nI ka)]) (rest := [.int 1]) ⟨hx, hb, hml, hown, hts⟩ (c_M_parts l D dT _ mm wd lf rt tc ty F sz Wk wz dg dc sh hM tb hO hT 200 ka (by omega) (hO.2.2 _ (by omega)).2.2.2.2.2.2.2.2.1) ⟨callB_of 1 hts (gI gd_up gd_c q592) rfl rfl rfl (ht _ q10) (ht _ q589) hd_M_parts ⟨Nat.le_of_ble_eq_true rfl, Nat.le_of_ble_eq_true rfl⟩, ht _ q591, ht _ qs15⟩ (z_preV hK (va_recv hK.1 hM.1 (ci := 10) (q0 := 0) rfl rfl)) rfl rfl hl.1 rfl (lv_room (Nat.le_of_ble_eq_true rfl)) d_M_type_89 ⟨Nat.zero_le _, Nat.zero_le _⟩) (fun v98 hv97 => ?_)
              subst hv97
              have htp98 := (hO.2.2 ka (by omega)).2.2.2.2.2.2.2.2.1
              refine lv_iadd hx hb d_M_type_92 ?_
              rw [show ((1 + (nI (tP (tb ka)))) : Int32) = nI (1 + (tP (tb ka))) from nI_add 1 (tP (tb ka))]
              refine lv_iload hx hb d_M_type_93 (lv_at hl 1 rfl) ?_
              refine lv_if_eq (tgt := 106) hx hb d_M_type_95 (by decide) (fun c99 => absurd c99 (by decide)) (fun _ => ?_)
              refine lv_aload_n hx hb d_M_type_98 rfl (lv_at hl 2 rfl) ?_
              refine lv_iload_n hx hb d_M_type_99 rfl (lv_at hl 5 rfl) ?_
              refine z_callR (va_runV (C := "ValueTreesModel") (As := [.int (nI kb)]) (rest := [.int (nI (1 + (tP (tb ka))))]) ⟨hx, hb, hml, hown, hts⟩ (c_M_parts l D dT _ mm wd lf rt tc ty F sz Wk wz dg dc sh hM tb hO hT 200 kb (by omega) (hO.2.2 _ (by omega)).2.2.2.2.2.2.2.2.1) ⟨callB_of 1 hts (gI gd_up gd_c q592) rfl rfl rfl (ht _ q10) (ht _ q589) hd_M_parts ⟨Nat.le_of_ble_eq_true rfl, Nat.le_of_ble_eq_true rfl⟩, ht _ q591, ht _ qs15⟩ (z_preV hK (va_recv hK.1 hM.1 (ci := 10) (q0 := 0) rfl rfl)) rfl rfl hl.1 rfl (lv_room (Nat.le_of_ble_eq_true rfl)) d_M_type_100 ⟨Nat.zero_le _, Nat.zero_le _⟩) (fun v101 hv100 => ?_)
              subst hv100
              have htp101 := (hO.2.2 kb (by omega)).2.2.2.2.2.2.2.2.1
              refine lv_goto (tgt := 107) hx hb d_M_type_103 (by decide) ?_
              refine lv_iadd hx hb d_M_type_107 ?_
              rw [show (((nI (1 + (tP (tb ka)))) + (nI (tP (tb kb)))) : Int32) = nI ((1 + (tP (tb ka))) + (tP (tb kb))) from nI_add (1 + (tP (tb ka))) (tP (tb kb))]
              refine lv_sipush (v := 200) hx hb d_M_type_108 (by decide) ?_
              refine lv_icmp_le (tgt := 116) hx hb d_M_type_111 (by decide) (fun c102 => ?_) (fun c102 => ?_)
              · have nc102 : ((1 + (tP (tb ka))) + (tP (tb kb))) ≤ 200 := (nI_leI (a := ((1 + (tP (tb ka))) + (tP (tb kb)))) (b := 200) (by omega) (by omega)).mp c102
                refine lv_iload hx hb d_M_type_116 (lv_at hl 1 rfl) ?_
                refine lv_if_eq (tgt := 125) hx hb d_M_type_118 (by decide) (fun c103 => absurd c103 (by decide)) (fun _ => ?_)
                refine lv_iload_n hx hb d_M_type_121 rfl (lv_at hl 5 rfl) ?_
                refine lv_goto (tgt := 126) hx hb d_M_type_122 (by decide) ?_
                refine lv_istore (lv' := [(6, .int (nI kb)), (5, .int 0), (4, .int 1), (0, .ref (mm 0)), (1, .int (nI wn)), (2, .int (nI ka)), (3, .int (nI kb))]) hx hb d_M_type_126 hl (by decide) rfl (fun ls hl => ?_)
                have hrow9 : rowOK tb tc wn ka (some kb) := ⟨hw10, hw18, hka, ⟨(fun h9 => by cases h9), fun h9 => absurd h9 (by omega)⟩, (fun k hk => by cases hk; exact hkb), by show 1 + tP (tb ka) + tP (tb kb) ≤ 200; omega, (fun h9 => absurd h9 (by omega))⟩
                have eo : o_row tb tc (nI wn) (nI ka) (nI kb) = some (mkR tb wn ka (some kb)) := by rw [row_2 htc (by omega) (by omega) hka hkb]; exact if_pos ⟨(fun h9 => absurd h9 (by omega)), by omega⟩
                refine lv_aload_n hx hb d_M_type_128 rfl (lv_at hl 3 rfl) ?_
                refine lv_iload_n hx hb d_M_type_129 rfl (lv_at hl 4 rfl) ?_
                refine lv_iload_n hx hb d_M_type_130 rfl (lv_at hl 5 rfl) ?_
                refine lv_iload hx hb d_M_type_131 (lv_at hl 0 rfl) ?_
                refine z_callR (va_runV (C := "ValueTreesModel") (As := [.int (nI wn), .int (nI ka), .int (nI kb)]) (rest := []) ⟨hx, hb, hml, hown, hts⟩ (c_M_find l D dT _ mm wd lf rt tc ty F sz Wk wz dg dc sh hM (nI wn) (nI ka) (nI kb) htc) ⟨callB_of 3 hts (gI gd_up gd_c q596) rfl rfl rfl (ht _ q10) (ht _ q593) hd_M_find ⟨Nat.le_of_ble_eq_true rfl, Nat.le_of_ble_eq_true rfl⟩, ht _ q595, ht _ qs16⟩ (z_preV hK (va_recv hK.1 hM.1 (ci := 10) (q0 := 0) rfl rfl)) rfl rfl hl.1 rfl (lv_room (Nat.le_of_ble_eq_true rfl)) d_M_type_133 ⟨Nat.zero_le _, Nat.zero_le _⟩) (fun v105 hv104 => ?_)
                rcases find_fork hO hT (w := wn) (L := some ka) (R := some kb) (by omega) (fun k hk => by cases hk; exact hka) (fun k hk => by cases hk; exact hkb) hv104 with ⟨tf, htf, hfd, hisf, rfl⟩ | ⟨hfd, rfl⟩
                · refine lv_if_ge (tgt := 154) hx hb d_M_type_136 (by decide) (fun c106 => ?_) (fun c106 => absurd (nI_pos' (by omega)) c106)
                  refine lv_aload_n hx hb d_M_type_154 rfl (lv_at hl 3 rfl) ?_
                  refine lv_iload_n hx hb d_M_type_155 rfl (lv_at hl 4 rfl) ?_
                  refine lv_iload_n hx hb d_M_type_156 rfl (lv_at hl 5 rfl) ?_
                  refine lv_iload hx hb d_M_type_157 (lv_at hl 0 rfl) ?_
                  refine z_callQ (va_runV (C := "ValueTreesModel") (As := [.int (nI wn), .int (nI ka), .int (nI kb)]) (rest := []) ⟨hx, hb, hml, hown, hts⟩ (c_M_typeFor l D dT _ mm wd lf rt tc ty F sz Wk wz dg dc sh hM tb hO hT wn ka (some kb) hrow9 (fun h9 => by rw [hfd] at h9; cases h9)) ⟨callB_of 3 hts (gI gd_up gd_c q600) rfl rfl rfl (ht _ q10) (ht _ q597) hd_M_typeFor ⟨Nat.le_of_ble_eq_true rfl, Nat.le_of_ble_eq_true rfl⟩, ht _ q599, ht _ qs17⟩ (z_preV hK (va_recv hK.1 hM.1 (ci := 10) (q0 := 0) rfl rfl)) rfl rfl hl.1 rfl (lv_room (Nat.le_of_ble_eq_true rfl)) d_M_type_159 ⟨Nat.le_refl _, Nat.le_refl _⟩) hS (fun _ h9 => h9) (fun v108 H locs hv107 hz109 hf110 hS => ?_)
                  obtain ⟨t9, tb2, tc2, wd2, lf2, rt2, hnum, rfl, hlt9, hO2, hT2, hext, htc2, hisT, hM⟩ := hv107
                  refine W.eq (g2 := F0 m 162 ls [.int (nI t9)]) rfl ?_
                  refine z_iretQ hx hb hr hlocks d_M_type_162 hS (Nat.le_refl _) (Nat.le_refl _) ?_
                  rw [ty_some eo hnum]
                  exact ⟨rfl, _, _, _, _, _, _, _, _, _, _, _, hM, hO2, hT2, mR_ext hO hext htc2 hR, hWk⟩
                · refine lv_if_ge (tgt := 154) hx hb d_M_type_136 (by decide) (fun c111 => absurd c111 (by decide)) (fun _ => ?_)
                  refine lv_aload_n hx hb d_M_type_139 rfl (lv_at hl 3 rfl) ?_
                  refine va_get (D := D) (ci := 10) (v := .int (nI tc)) (C := "ValueTreesModel") (T := T_M) (N := 12) hx hb ht in_M hown hK.1 hM.1 0 rfl rfl 3 (by decide) (ht _ q542) (fun _ h9 => h9) rfl d_M_type_140 ?_
                  refine lv_sipush (v := 2000) hx hb d_M_type_143 (by decide) ?_
                  refine lv_icmp_ne (tgt := 154) hx hb d_M_type_146 (by decide) (fun c112 => ?_) (fun c112 => ?_)
                  · have nc112 : ¬ tc = 2000 := fun h9 => c112 ((nI_eq (a := tc) (b := 2000) (by omega) (by omega)).mpr h9)
                    refine lv_aload_n hx hb d_M_type_154 rfl (lv_at hl 3 rfl) ?_
                    refine lv_iload_n hx hb d_M_type_155 rfl (lv_at hl 4 rfl) ?_
                    refine lv_iload_n hx hb d_M_type_156 rfl (lv_at hl 5 rfl) ?_
                    refine lv_iload hx hb d_M_type_157 (lv_at hl 0 rfl) ?_
                    refine z_callQ (va_runV (C := "ValueTreesModel") (As := [.int (nI wn), .int (nI ka), .int (nI kb)]) (rest := []) ⟨hx, hb, hml, hown, hts⟩ (c_M_typeFor l D dT _ mm wd lf rt tc ty F sz Wk wz dg dc sh hM tb hO hT wn ka (some kb) hrow9 (fun _ => by omega)) ⟨callB_of 3 hts (gI gd_up gd_c q600) rfl rfl rfl (ht _ q10) (ht _ q597) hd_M_typeFor ⟨Nat.le_of_ble_eq_true rfl, Nat.le_of_ble_eq_true rfl⟩, ht _ q599, ht _ qs17⟩ (z_preV hK (va_recv hK.1 hM.1 (ci := 10) (q0 := 0) rfl rfl)) rfl rfl hl.1 rfl (lv_room (Nat.le_of_ble_eq_true rfl)) d_M_type_159 ⟨Nat.le_refl _, Nat.le_refl _⟩) hS (fun _ h9 => h9) (fun v114 H locs hv113 hz115 hf116 hS => ?_)
                    obtain ⟨t9, tb2, tc2, wd2, lf2, rt2, hnum, rfl, hlt9, hO2, hT2, hext, htc2, hisT, hM⟩ := hv113
                    refine W.eq (g2 := F0 m 162 ls [.int (nI t9)]) rfl ?_
                    refine z_iretQ hx hb hr hlocks d_M_type_162 hS (Nat.le_refl _) (Nat.le_refl _) ?_
                    rw [ty_some eo hnum]
                    exact ⟨rfl, _, _, _, _, _, _, _, _, _, _, _, hM, hO2, hT2, mR_ext hO hext htc2 hR, hWk⟩
                  · have nc112 : tc = 2000 := (nI_eq (a := tc) (b := 2000) (by omega) (by omega)).mp c112
                    refine lv_bipush (v := (-2)) hx hb d_M_type_149 (by decide) ?_
                    refine lv_goto (tgt := 162) hx hb d_M_type_151 (by decide) ?_
                    refine z_iretQ hx hb hr hlocks d_M_type_162 hS (Nat.le_refl _) (Nat.le_refl _) ?_
                    rw [ty_full eo (numT_full hfd nc112)]
                    exact ⟨rfl, _, _, _, _, _, _, _, _, _, _, _, hM, hO, hT, hR, hWk⟩
              · have nc102 : ¬ ((1 + (tP (tb ka))) + (tP (tb kb))) ≤ 200 := fun h9 => c102 ((nI_leI (a := ((1 + (tP (tb ka))) + (tP (tb kb)))) (b := 200) (by omega) (by omega)).mpr h9)
                refine lv_iconst (v := (-1)) hx hb d_M_type_114 (by decide) ?_
                refine z_iretQ hx hb hr hlocks d_M_type_115 hS (Nat.le_refl _) (Nat.le_refl _) ?_
                rw [ty_none (by rw [row_2 htc (by omega) (by omega) hka hkb]; exact if_neg (fun h9 => absurd h9.2 (by omega)))]
                exact ⟨rfl, _, _, _, _, _, _, _, _, _, _, _, hM, hO, hT, hR, hWk⟩
            · have nc95 : wn = 16 := (nI_eq (a := wn) (b := 16) (by omega) (by omega)).mp c95
              refine lv_iconst (v := 1) hx hb d_M_type_66 (by decide) ?_
              refine lv_goto (tgt := 71) hx hb d_M_type_67 (by decide) ?_
              refine lv_istore (lv' := [(5, .int 1), (4, .int 1), (0, .ref (mm 0)), (1, .int (nI wn)), (2, .int (nI ka)), (3, .int (nI kb))]) hx hb d_M_type_71 hl (by decide) rfl (fun ls hl => ?_)
              refine lv_iload hx hb d_M_type_73 (lv_at hl 0 rfl) ?_
              refine lv_if_eq (tgt := 86) hx hb d_M_type_75 (by decide) (fun c117 => absurd c117 (by decide)) (fun _ => ?_)
              refine lv_aload_n hx hb d_M_type_78 rfl (lv_at hl 2 rfl) ?_
              refine lv_iload_n hx hb d_M_type_79 rfl (lv_at hl 4 rfl) ?_
              refine z_callR (va_runV (C := "ValueTreesModel") (As := [.int (nI ka)]) (rest := []) ⟨hx, hb, hml, hown, hts⟩ (c_M_isComparable l D dT _ mm wd lf rt tc ty F sz Wk wz dg dc sh hM tb hO hT 200 ka (by omega) (hO.2.2 _ (by omega)).2.2.2.2.2.2.2.2.1) ⟨callB_of 1 hts (gI gd_up gd_c q588) rfl rfl rfl (ht _ q10) (ht _ q585) hd_M_isComparable ⟨Nat.le_of_ble_eq_true rfl, Nat.le_of_ble_eq_true rfl⟩, ht _ q587, ht _ qs14⟩ (z_preV hK (va_recv hK.1 hM.1 (ci := 10) (q0 := 0) rfl rfl)) rfl rfl hl.1 rfl (lv_room (Nat.le_of_ble_eq_true rfl)) d_M_type_80 ⟨Nat.zero_le _, Nat.zero_le _⟩) (fun v119 hv118 => ?_)
              have hv118 : v119 = .int (if tC (tb ka) = true then 1 else 0) := hv118
              cases hq120 : tC (tb ka) with
              | false =>
                rw [hq120, if_neg (by decide)] at hv118
                subst hv118
                refine lv_if_eq (tgt := 114) hx hb d_M_type_83 (by decide) (fun _ => ?_) (fun c121 => absurd c121 (by decide))
                refine lv_iconst (v := (-1)) hx hb d_M_type_114 (by decide) ?_
                refine z_iretQ hx hb hr hlocks d_M_type_115 hS (Nat.le_refl _) (Nat.le_refl _) ?_
                rw [ty_none (by rw [row_2 htc (by omega) (by omega) hka hkb]; exact if_neg (fun h9 => absurd (h9.1 (by omega)) (by rw [hq120]; decide)))]
                exact ⟨rfl, _, _, _, _, _, _, _, _, _, _, _, hM, hO, hT, hR, hWk⟩
              | true =>
                rw [hq120, if_pos rfl] at hv118
                subst hv118
                refine lv_if_eq (tgt := 114) hx hb d_M_type_83 (by decide) (fun c122 => absurd c122 (by decide)) (fun _ => ?_)
                refine lv_iconst (v := 1) hx hb d_M_type_86 (by decide) ?_
                refine lv_aload_n hx hb d_M_type_87 rfl (lv_at hl 2 rfl) ?_
                refine lv_iload_n hx hb d_M_type_88 rfl (lv_at hl 4 rfl) ?_
                refine z_callR (va_runV (C := "ValueTreesModel") (As := [.int (nI ka)]) (rest := [.int 1]) ⟨hx, hb, hml, hown, hts⟩ (c_M_parts l D dT _ mm wd lf rt tc ty F sz Wk wz dg dc sh hM tb hO hT 200 ka (by omega) (hO.2.2 _ (by omega)).2.2.2.2.2.2.2.2.1) ⟨callB_of 1 hts (gI gd_up gd_c q592) rfl rfl rfl (ht _ q10) (ht _ q589) hd_M_parts ⟨Nat.le_of_ble_eq_true rfl, Nat.le_of_ble_eq_true rfl⟩, ht _ q591, ht _ qs15⟩ (z_preV hK (va_recv hK.1 hM.1 (ci := 10) (q0 := 0) rfl rfl)) rfl rfl hl.1 rfl (lv_room (Nat.le_of_ble_eq_true rfl)) d_M_type_89 ⟨Nat.zero_le _, Nat.zero_le _⟩) (fun v124 hv123 => ?_)
                subst hv123
                have htp124 := (hO.2.2 ka (by omega)).2.2.2.2.2.2.2.2.1
                refine lv_iadd hx hb d_M_type_92 ?_
                rw [show ((1 + (nI (tP (tb ka)))) : Int32) = nI (1 + (tP (tb ka))) from nI_add 1 (tP (tb ka))]
                refine lv_iload hx hb d_M_type_93 (lv_at hl 1 rfl) ?_
                refine lv_if_eq (tgt := 106) hx hb d_M_type_95 (by decide) (fun c125 => absurd c125 (by decide)) (fun _ => ?_)
                refine lv_aload_n hx hb d_M_type_98 rfl (lv_at hl 2 rfl) ?_
                refine lv_iload_n hx hb d_M_type_99 rfl (lv_at hl 5 rfl) ?_
                refine z_callR (va_runV (C := "ValueTreesModel") (As := [.int (nI kb)]) (rest := [.int (nI (1 + (tP (tb ka))))]) ⟨hx, hb, hml, hown, hts⟩ (c_M_parts l D dT _ mm wd lf rt tc ty F sz Wk wz dg dc sh hM tb hO hT 200 kb (by omega) (hO.2.2 _ (by omega)).2.2.2.2.2.2.2.2.1) ⟨callB_of 1 hts (gI gd_up gd_c q592) rfl rfl rfl (ht _ q10) (ht _ q589) hd_M_parts ⟨Nat.le_of_ble_eq_true rfl, Nat.le_of_ble_eq_true rfl⟩, ht _ q591, ht _ qs15⟩ (z_preV hK (va_recv hK.1 hM.1 (ci := 10) (q0 := 0) rfl rfl)) rfl rfl hl.1 rfl (lv_room (Nat.le_of_ble_eq_true rfl)) d_M_type_100 ⟨Nat.zero_le _, Nat.zero_le _⟩) (fun v127 hv126 => ?_)
                subst hv126
                have htp127 := (hO.2.2 kb (by omega)).2.2.2.2.2.2.2.2.1
                refine lv_goto (tgt := 107) hx hb d_M_type_103 (by decide) ?_
                refine lv_iadd hx hb d_M_type_107 ?_
                rw [show (((nI (1 + (tP (tb ka)))) + (nI (tP (tb kb)))) : Int32) = nI ((1 + (tP (tb ka))) + (tP (tb kb))) from nI_add (1 + (tP (tb ka))) (tP (tb kb))]
                refine lv_sipush (v := 200) hx hb d_M_type_108 (by decide) ?_
                refine lv_icmp_le (tgt := 116) hx hb d_M_type_111 (by decide) (fun c128 => ?_) (fun c128 => ?_)
                · have nc128 : ((1 + (tP (tb ka))) + (tP (tb kb))) ≤ 200 := (nI_leI (a := ((1 + (tP (tb ka))) + (tP (tb kb)))) (b := 200) (by omega) (by omega)).mp c128
                  refine lv_iload hx hb d_M_type_116 (lv_at hl 1 rfl) ?_
                  refine lv_if_eq (tgt := 125) hx hb d_M_type_118 (by decide) (fun c129 => absurd c129 (by decide)) (fun _ => ?_)
                  refine lv_iload_n hx hb d_M_type_121 rfl (lv_at hl 5 rfl) ?_
                  refine lv_goto (tgt := 126) hx hb d_M_type_122 (by decide) ?_
                  refine lv_istore (lv' := [(6, .int (nI kb)), (5, .int 1), (4, .int 1), (0, .ref (mm 0)), (1, .int (nI wn)), (2, .int (nI ka)), (3, .int (nI kb))]) hx hb d_M_type_126 hl (by decide) rfl (fun ls hl => ?_)
                  have hrow9 : rowOK tb tc wn ka (some kb) := ⟨hw10, hw18, hka, ⟨(fun h9 => by cases h9), fun h9 => absurd h9 (by omega)⟩, (fun k hk => by cases hk; exact hkb), by show 1 + tP (tb ka) + tP (tb kb) ≤ 200; omega, (fun _ => hq120)⟩
                  have eo : o_row tb tc (nI wn) (nI ka) (nI kb) = some (mkR tb wn ka (some kb)) := by rw [row_2 htc (by omega) (by omega) hka hkb]; exact if_pos ⟨(fun _ => hq120), by omega⟩
                  refine lv_aload_n hx hb d_M_type_128 rfl (lv_at hl 3 rfl) ?_
                  refine lv_iload_n hx hb d_M_type_129 rfl (lv_at hl 4 rfl) ?_
                  refine lv_iload_n hx hb d_M_type_130 rfl (lv_at hl 5 rfl) ?_
                  refine lv_iload hx hb d_M_type_131 (lv_at hl 0 rfl) ?_
                  refine z_callR (va_runV (C := "ValueTreesModel") (As := [.int (nI wn), .int (nI ka), .int (nI kb)]) (rest := []) ⟨hx, hb, hml, hown, hts⟩ (c_M_find l D dT _ mm wd lf rt tc ty F sz Wk wz dg dc sh hM (nI wn) (nI ka) (nI kb) htc) ⟨callB_of 3 hts (gI gd_up gd_c q596) rfl rfl rfl (ht _ q10) (ht _ q593) hd_M_find ⟨Nat.le_of_ble_eq_true rfl, Nat.le_of_ble_eq_true rfl⟩, ht _ q595, ht _ qs16⟩ (z_preV hK (va_recv hK.1 hM.1 (ci := 10) (q0 := 0) rfl rfl)) rfl rfl hl.1 rfl (lv_room (Nat.le_of_ble_eq_true rfl)) d_M_type_133 ⟨Nat.zero_le _, Nat.zero_le _⟩) (fun v131 hv130 => ?_)
                  rcases find_fork hO hT (w := wn) (L := some ka) (R := some kb) (by omega) (fun k hk => by cases hk; exact hka) (fun k hk => by cases hk; exact hkb) hv130 with ⟨tf, htf, hfd, hisf, rfl⟩ | ⟨hfd, rfl⟩
                  · refine lv_if_ge (tgt := 154) hx hb d_M_type_136 (by decide) (fun c132 => ?_) (fun c132 => absurd (nI_pos' (by omega)) c132)
                    refine lv_aload_n hx hb d_M_type_154 rfl (lv_at hl 3 rfl) ?_
                    refine lv_iload_n hx hb d_M_type_155 rfl (lv_at hl 4 rfl) ?_
                    refine lv_iload_n hx hb d_M_type_156 rfl (lv_at hl 5 rfl) ?_
                    refine lv_iload hx hb d_M_type_157 (lv_at hl 0 rfl) ?_
                    refine z_callQ (va_runV (C := "ValueTreesModel") (As := [.int (nI wn), .int (nI ka), .int (nI kb)]) (rest := []) ⟨hx, hb, hml, hown, hts⟩ (c_M_typeFor l D dT _ mm wd lf rt tc ty F sz Wk wz dg dc sh hM tb hO hT wn ka (some kb) hrow9 (fun h9 => by rw [hfd] at h9; cases h9)) ⟨callB_of 3 hts (gI gd_up gd_c q600) rfl rfl rfl (ht _ q10) (ht _ q597) hd_M_typeFor ⟨Nat.le_of_ble_eq_true rfl, Nat.le_of_ble_eq_true rfl⟩, ht _ q599, ht _ qs17⟩ (z_preV hK (va_recv hK.1 hM.1 (ci := 10) (q0 := 0) rfl rfl)) rfl rfl hl.1 rfl (lv_room (Nat.le_of_ble_eq_true rfl)) d_M_type_159 ⟨Nat.le_refl _, Nat.le_refl _⟩) hS (fun _ h9 => h9) (fun v134 H locs hv133 hz135 hf136 hS => ?_)
                    obtain ⟨t9, tb2, tc2, wd2, lf2, rt2, hnum, rfl, hlt9, hO2, hT2, hext, htc2, hisT, hM⟩ := hv133
                    refine W.eq (g2 := F0 m 162 ls [.int (nI t9)]) rfl ?_
                    refine z_iretQ hx hb hr hlocks d_M_type_162 hS (Nat.le_refl _) (Nat.le_refl _) ?_
                    rw [ty_some eo hnum]
                    exact ⟨rfl, _, _, _, _, _, _, _, _, _, _, _, hM, hO2, hT2, mR_ext hO hext htc2 hR, hWk⟩
                  · refine lv_if_ge (tgt := 154) hx hb d_M_type_136 (by decide) (fun c137 => absurd c137 (by decide)) (fun _ => ?_)
                    refine lv_aload_n hx hb d_M_type_139 rfl (lv_at hl 3 rfl) ?_
                    refine va_get (D := D) (ci := 10) (v := .int (nI tc)) (C := "ValueTreesModel") (T := T_M) (N := 12) hx hb ht in_M hown hK.1 hM.1 0 rfl rfl 3 (by decide) (ht _ q542) (fun _ h9 => h9) rfl d_M_type_140 ?_
                    refine lv_sipush (v := 2000) hx hb d_M_type_143 (by decide) ?_
                    refine lv_icmp_ne (tgt := 154) hx hb d_M_type_146 (by decide) (fun c138 => ?_) (fun c138 => ?_)
                    · have nc138 : ¬ tc = 2000 := fun h9 => c138 ((nI_eq (a := tc) (b := 2000) (by omega) (by omega)).mpr h9)
                      refine lv_aload_n hx hb d_M_type_154 rfl (lv_at hl 3 rfl) ?_
                      refine lv_iload_n hx hb d_M_type_155 rfl (lv_at hl 4 rfl) ?_
                      refine lv_iload_n hx hb d_M_type_156 rfl (lv_at hl 5 rfl) ?_
                      refine lv_iload hx hb d_M_type_157 (lv_at hl 0 rfl) ?_
                      refine z_callQ (va_runV (C := "ValueTreesModel") (As := [.int (nI wn), .int (nI ka), .int (nI kb)]) (rest := []) ⟨hx, hb, hml, hown, hts⟩ (c_M_typeFor l D dT _ mm wd lf rt tc ty F sz Wk wz dg dc sh hM tb hO hT wn ka (some kb) hrow9 (fun _ => by omega)) ⟨callB_of 3 hts (gI gd_up gd_c q600) rfl rfl rfl (ht _ q10) (ht _ q597) hd_M_typeFor ⟨Nat.le_of_ble_eq_true rfl, Nat.le_of_ble_eq_true rfl⟩, ht _ q599, ht _ qs17⟩ (z_preV hK (va_recv hK.1 hM.1 (ci := 10) (q0 := 0) rfl rfl)) rfl rfl hl.1 rfl (lv_room (Nat.le_of_ble_eq_true rfl)) d_M_type_159 ⟨Nat.le_refl _, Nat.le_refl _⟩) hS (fun _ h9 => h9) (fun v140 H locs hv139 hz141 hf142 hS => ?_)
                      obtain ⟨t9, tb2, tc2, wd2, lf2, rt2, hnum, rfl, hlt9, hO2, hT2, hext, htc2, hisT, hM⟩ := hv139
                      refine W.eq (g2 := F0 m 162 ls [.int (nI t9)]) rfl ?_
                      refine z_iretQ hx hb hr hlocks d_M_type_162 hS (Nat.le_refl _) (Nat.le_refl _) ?_
                      rw [ty_some eo hnum]
                      exact ⟨rfl, _, _, _, _, _, _, _, _, _, _, _, hM, hO2, hT2, mR_ext hO hext htc2 hR, hWk⟩
                    · have nc138 : tc = 2000 := (nI_eq (a := tc) (b := 2000) (by omega) (by omega)).mp c138
                      refine lv_bipush (v := (-2)) hx hb d_M_type_149 (by decide) ?_
                      refine lv_goto (tgt := 162) hx hb d_M_type_151 (by decide) ?_
                      refine z_iretQ hx hb hr hlocks d_M_type_162 hS (Nat.le_refl _) (Nat.le_refl _) ?_
                      rw [ty_full eo (numT_full hfd nc138)]
                      exact ⟨rfl, _, _, _, _, _, _, _, _, _, _, _, hM, hO, hT, hR, hWk⟩
                · have nc128 : ¬ ((1 + (tP (tb ka))) + (tP (tb kb))) ≤ 200 := fun h9 => c128 ((nI_leI (a := ((1 + (tP (tb ka))) + (tP (tb kb)))) (b := 200) (by omega) (by omega)).mpr h9)
                  refine lv_iconst (v := (-1)) hx hb d_M_type_114 (by decide) ?_
                  refine z_iretQ hx hb hr hlocks d_M_type_115 hS (Nat.le_refl _) (Nat.le_refl _) ?_
                  rw [ty_none (by rw [row_2 htc (by omega) (by omega) hka hkb]; exact if_neg (fun h9 => absurd h9.2 (by omega)))]
                  exact ⟨rfl, _, _, _, _, _, _, _, _, _, _, _, hM, hO, hT, hR, hWk⟩
        · rw [if_neg hq65] at hv63
          subst hv63
          refine lv_if_ne (tgt := 48) hx hb d_M_type_43 (by decide) (fun c143 => absurd c143 (by decide)) (fun _ => ?_)
          refine lv_iconst (v := (-1)) hx hb d_M_type_46 (by decide) ?_
          refine z_iretQ hx hb hr hlocks d_M_type_47 hS (Nat.le_refl _) (Nat.le_refl _) ?_
          rw [ty_none (row_b (by omega) (by omega) (tN_none hq65))]
          exact ⟨rfl, _, _, _, _, _, _, _, _, _, _, _, hM, hO, hT, hR, hWk⟩
      · rw [if_neg hq60] at hv58
        subst hv58
        refine lv_if_eq (tgt := 46) hx hb d_M_type_30 (by decide) (fun _ => ?_) (fun c144 => absurd c144 (by decide))
        refine lv_iconst (v := (-1)) hx hb d_M_type_46 (by decide) ?_
        refine z_iretQ hx hb hr hlocks d_M_type_47 hS (Nat.le_refl _) (Nat.le_refl _) ?_
        rw [ty_none (row_a (tN_none hq60))]
        exact ⟨rfl, _, _, _, _, _, _, _, _, _, _, _, hM, hO, hT, hR, hWk⟩
  · refine lv_iload_n hx hb d_M_type_0 rfl (lv_at hl 1 rfl) ?_
    refine lv_bipush (v := 14) hx hb d_M_type_1 (by decide) ?_
    refine lv_icmp_lt (tgt := 10) hx hb d_M_type_3 (by decide) (fun c145 => ?_) (fun c145 => ?_)
    · refine lv_iconst (v := 0) hx hb d_M_type_10 (by decide) ?_
      refine lv_istore (lv' := [(4, .int 0), (0, .ref (mm 0)), (1, .int w), (2, .int a), (3, .int b)]) hx hb d_M_type_11 hl (by decide) rfl (fun ls hl => ?_)
      refine lv_iload_n hx hb d_M_type_13 rfl (lv_at hl 2 rfl) ?_
      refine lv_bipush (v := 10) hx hb d_M_type_14 (by decide) ?_
      refine lv_icmp_lt (tgt := 46) hx hb d_M_type_16 (by decide) (fun c146 => ?_) (fun c146 => ?_)
      · refine lv_iconst (v := (-1)) hx hb d_M_type_46 (by decide) ?_
        refine z_iretQ hx hb hr hlocks d_M_type_47 hS (Nat.le_refl _) (Nat.le_refl _) ?_
        rw [ty_none (row_w hw9)]
        exact ⟨rfl, _, _, _, _, _, _, _, _, _, _, _, hM, hO, hT, hR, hWk⟩
      · refine lv_iload_n hx hb d_M_type_19 rfl (lv_at hl 2 rfl) ?_
        refine lv_bipush (v := 18) hx hb d_M_type_20 (by decide) ?_
        refine lv_icmp_gt (tgt := 46) hx hb d_M_type_22 (by decide) (fun c147 => ?_) (fun c147 => ?_)
        · refine lv_iconst (v := (-1)) hx hb d_M_type_46 (by decide) ?_
          refine z_iretQ hx hb hr hlocks d_M_type_47 hS (Nat.le_refl _) (Nat.le_refl _) ?_
          rw [ty_none (row_w hw9)]
          exact ⟨rfl, _, _, _, _, _, _, _, _, _, _, _, hM, hO, hT, hR, hWk⟩
        · exact absurd ⟨Int32.not_lt.mp c146, Int32.not_lt.mp c147⟩ hw9
    · refine lv_iconst (v := 1) hx hb d_M_type_6 (by decide) ?_
      refine lv_goto (tgt := 11) hx hb d_M_type_7 (by decide) ?_
      refine lv_istore (lv' := [(4, .int 1), (0, .ref (mm 0)), (1, .int w), (2, .int a), (3, .int b)]) hx hb d_M_type_11 hl (by decide) rfl (fun ls hl => ?_)
      refine lv_iload_n hx hb d_M_type_13 rfl (lv_at hl 2 rfl) ?_
      refine lv_bipush (v := 10) hx hb d_M_type_14 (by decide) ?_
      refine lv_icmp_lt (tgt := 46) hx hb d_M_type_16 (by decide) (fun c148 => ?_) (fun c148 => ?_)
      · refine lv_iconst (v := (-1)) hx hb d_M_type_46 (by decide) ?_
        refine z_iretQ hx hb hr hlocks d_M_type_47 hS (Nat.le_refl _) (Nat.le_refl _) ?_
        rw [ty_none (row_w hw9)]
        exact ⟨rfl, _, _, _, _, _, _, _, _, _, _, _, hM, hO, hT, hR, hWk⟩
      · refine lv_iload_n hx hb d_M_type_19 rfl (lv_at hl 2 rfl) ?_
        refine lv_bipush (v := 18) hx hb d_M_type_20 (by decide) ?_
        refine lv_icmp_gt (tgt := 46) hx hb d_M_type_22 (by decide) (fun c149 => ?_) (fun c149 => ?_)
        · refine lv_iconst (v := (-1)) hx hb d_M_type_46 (by decide) ?_
          refine z_iretQ hx hb hr hlocks d_M_type_47 hS (Nat.le_refl _) (Nat.le_refl _) ?_
          rw [ty_none (row_w hw9)]
          exact ⟨rfl, _, _, _, _, _, _, _, _, _, _, _, hM, hO, hT, hR, hWk⟩
        · exact absurd ⟨Int32.not_lt.mp c148, Int32.not_lt.mp c149⟩ hw9
theorem pr_some {tb : Nat → TR} {tc : Nat} {RV : Nat → Option VT} {r a b : Int32} {v w : VT} {t : Nat} {x : (Nat → TR) × Nat} (h1 : rgs RV a = some v) (h2 : rgs RV b = some w) (hr : inR r) (hp : 1 + tP (tb (vty v)) + tP (tb (vty w)) ≤ 200) (hl : ¬ 160 < 2 + (cs v).length + (cs w).length) (hn : numT tb tc (mkR tb 18 (vty v) (some (vty w))) = (some t, x)) : a_pair tb tc RV r a b = (nI (2 + (cs v).length + (cs w).length), updR RV r.toNatClampNeg (some (.pow (.add v w) t)), x) := by
  unfold a_pair
  rw [h1, h2]
  dsimp only
  rw [if_pos ⟨hr, hp⟩, if_neg hl, hn]
theorem pr_full {tb : Nat → TR} {tc : Nat} {RV : Nat → Option VT} {r a b : Int32} {v w : VT} (h1 : rgs RV a = some v) (h2 : rgs RV b = some w) (hr : inR r) (hp : 1 + tP (tb (vty v)) + tP (tb (vty w)) ≤ 200) (hl : 160 < 2 + (cs v).length + (cs w).length ∨ numT tb tc (mkR tb 18 (vty v) (some (vty w))) = (none, tb, tc)) : a_pair tb tc RV r a b = (-2, RV, tb, tc) := by
  unfold a_pair
  rw [h1, h2]
  dsimp only
  rw [if_pos ⟨hr, hp⟩]
  split
  · rfl
  · next h => rcases hl with h3 | h3
              · exact absurd h3 h
              · rw [h3]
theorem pr_no {tb : Nat → TR} {tc : Nat} {RV : Nat → Option VT} {r a b : Int32} (h : rgs RV a = none ∨ rgs RV b = none ∨ ¬ inR r ∨ ∃ v w, rgs RV a = some v ∧ rgs RV b = some w ∧ ¬ 1 + tP (tb (vty v)) + tP (tb (vty w)) ≤ 200) : a_pair tb tc RV r a b = (-1, RV, tb, tc) := by
  unfold a_pair
  split
  · next v w h1 h2 =>
    rw [if_neg]
    rintro ⟨hr, hp⟩
    rcases h with h | h | h | ⟨v', w', h3, h4, h5⟩
    · rw [h] at h1; cases h1
    · rw [h] at h2; cases h2
    · exact h hr
    · rw [h1] at h3; cases h3
      rw [h2] at h4; cases h4
      exact h5 hp
  · rfl
abbrev b_M_pair : ByteArray := prog_12_method_38_code
abbrev y_M_pair : MethodName := ⟨"ValueTreesModel", "pair", "(III)I"⟩
abbrev w_M_pair : List Cond := .code y_M_pair b_M_pair 5 (Option.some .int) :: gt
theorem hd_M_pair : (y_M_pair).cls ≠ "java/lang/invoke/MethodHandle" ∧ (y_M_pair).cls ≠ "java/lang/invoke/VarHandle" ∧ (parseMethodDescriptor (y_M_pair).desc).map (fun d => d.parameters.length) = some 3 := by decide +kernel
theorem d_M_pair_0 : decode b_M_pair 0 = .ok (.iload_n 1, 1) := by decide +kernel
theorem d_M_pair_1 : decode b_M_pair 1 = .ok (.invokestatic 66, 3) := by decide +kernel
theorem d_M_pair_4 : decode b_M_pair 4 = .ok (.ifCond .eq 48, 3) := by decide +kernel
theorem d_M_pair_7 : decode b_M_pair 7 = .ok (.aload_n 0, 1) := by decide +kernel
theorem d_M_pair_8 : decode b_M_pair 8 = .ok (.iload_n 2, 1) := by decide +kernel
theorem d_M_pair_9 : decode b_M_pair 9 = .ok (.invokevirtual 69, 3) := by decide +kernel
theorem d_M_pair_12 : decode b_M_pair 12 = .ok (.ifCond .eq 40, 3) := by decide +kernel
theorem d_M_pair_15 : decode b_M_pair 15 = .ok (.aload_n 0, 1) := by decide +kernel
theorem d_M_pair_16 : decode b_M_pair 16 = .ok (.iload_n 3, 1) := by decide +kernel
theorem d_M_pair_17 : decode b_M_pair 17 = .ok (.invokevirtual 69, 3) := by decide +kernel
theorem d_M_pair_20 : decode b_M_pair 20 = .ok (.ifCond .eq 32, 3) := by decide +kernel
theorem d_M_pair_23 : decode b_M_pair 23 = .ok (.iconst 1, 1) := by decide +kernel
theorem d_M_pair_24 : decode b_M_pair 24 = .ok (.aload_n 0, 1) := by decide +kernel
theorem d_M_pair_25 : decode b_M_pair 25 = .ok (.aload_n 0, 1) := by decide +kernel
theorem d_M_pair_26 : decode b_M_pair 26 = .ok (.getfield 19, 3) := by decide +kernel
theorem d_M_pair_29 : decode b_M_pair 29 = .ok (.iload_n 2, 1) := by decide +kernel
theorem d_M_pair_30 : decode b_M_pair 30 = .ok (.iaload, 1) := by decide +kernel
theorem d_M_pair_31 : decode b_M_pair 31 = .ok (.invokevirtual 42, 3) := by decide +kernel
theorem d_M_pair_34 : decode b_M_pair 34 = .ok (.iadd, 1) := by decide +kernel
theorem d_M_pair_35 : decode b_M_pair 35 = .ok (.aload_n 0, 1) := by decide +kernel
theorem d_M_pair_36 : decode b_M_pair 36 = .ok (.aload_n 0, 1) := by decide +kernel
theorem d_M_pair_37 : decode b_M_pair 37 = .ok (.getfield 19, 3) := by decide +kernel
theorem d_M_pair_40 : decode b_M_pair 40 = .ok (.iload_n 3, 1) := by decide +kernel
theorem d_M_pair_41 : decode b_M_pair 41 = .ok (.iaload, 1) := by decide +kernel
theorem d_M_pair_42 : decode b_M_pair 42 = .ok (.invokevirtual 42, 3) := by decide +kernel
theorem d_M_pair_45 : decode b_M_pair 45 = .ok (.iadd, 1) := by decide +kernel
theorem d_M_pair_46 : decode b_M_pair 46 = .ok (.sipush 200, 3) := by decide +kernel
theorem d_M_pair_49 : decode b_M_pair 49 = .ok (.if_icmp .le 5, 3) := by decide +kernel
theorem d_M_pair_52 : decode b_M_pair 52 = .ok (.iconst (-1), 1) := by decide +kernel
theorem d_M_pair_53 : decode b_M_pair 53 = .ok (.ireturn, 1) := by decide +kernel
theorem d_M_pair_54 : decode b_M_pair 54 = .ok (.aload_n 0, 1) := by decide +kernel
theorem d_M_pair_55 : decode b_M_pair 55 = .ok (.bipush 18, 2) := by decide +kernel
theorem d_M_pair_57 : decode b_M_pair 57 = .ok (.aload_n 0, 1) := by decide +kernel
theorem d_M_pair_58 : decode b_M_pair 58 = .ok (.getfield 19, 3) := by decide +kernel
theorem d_M_pair_61 : decode b_M_pair 61 = .ok (.iload_n 2, 1) := by decide +kernel
theorem d_M_pair_62 : decode b_M_pair 62 = .ok (.iaload, 1) := by decide +kernel
theorem d_M_pair_63 : decode b_M_pair 63 = .ok (.aload_n 0, 1) := by decide +kernel
theorem d_M_pair_64 : decode b_M_pair 64 = .ok (.getfield 19, 3) := by decide +kernel
theorem d_M_pair_67 : decode b_M_pair 67 = .ok (.iload_n 3, 1) := by decide +kernel
theorem d_M_pair_68 : decode b_M_pair 68 = .ok (.iaload, 1) := by decide +kernel
theorem d_M_pair_69 : decode b_M_pair 69 = .ok (.invokevirtual 56, 3) := by decide +kernel
theorem d_M_pair_72 : decode b_M_pair 72 = .ok (.ifCond .ge 7, 3) := by decide +kernel
theorem d_M_pair_75 : decode b_M_pair 75 = .ok (.iconst 1, 1) := by decide +kernel
theorem d_M_pair_76 : decode b_M_pair 76 = .ok (.goto 4, 3) := by decide +kernel
theorem d_M_pair_79 : decode b_M_pair 79 = .ok (.iconst 0, 1) := by decide +kernel
theorem d_M_pair_80 : decode b_M_pair 80 = .ok (.istore 4, 2) := by decide +kernel
theorem d_M_pair_82 : decode b_M_pair 82 = .ok (.iconst 2, 1) := by decide +kernel
theorem d_M_pair_83 : decode b_M_pair 83 = .ok (.aload_n 0, 1) := by decide +kernel
theorem d_M_pair_84 : decode b_M_pair 84 = .ok (.getfield 26, 3) := by decide +kernel
theorem d_M_pair_87 : decode b_M_pair 87 = .ok (.iload_n 2, 1) := by decide +kernel
theorem d_M_pair_88 : decode b_M_pair 88 = .ok (.iaload, 1) := by decide +kernel
theorem d_M_pair_89 : decode b_M_pair 89 = .ok (.iadd, 1) := by decide +kernel
theorem d_M_pair_90 : decode b_M_pair 90 = .ok (.aload_n 0, 1) := by decide +kernel
theorem d_M_pair_91 : decode b_M_pair 91 = .ok (.getfield 26, 3) := by decide +kernel
theorem d_M_pair_94 : decode b_M_pair 94 = .ok (.iload_n 3, 1) := by decide +kernel
theorem d_M_pair_95 : decode b_M_pair 95 = .ok (.iaload, 1) := by decide +kernel
theorem d_M_pair_96 : decode b_M_pair 96 = .ok (.iadd, 1) := by decide +kernel
theorem d_M_pair_97 : decode b_M_pair 97 = .ok (.sipush 160, 3) := by decide +kernel
theorem d_M_pair_100 : decode b_M_pair 100 = .ok (.if_icmp .gt 18, 3) := by decide +kernel
theorem d_M_pair_103 : decode b_M_pair 103 = .ok (.iload 4, 2) := by decide +kernel
theorem d_M_pair_105 : decode b_M_pair 105 = .ok (.ifCond .eq 16, 3) := by decide +kernel
theorem d_M_pair_108 : decode b_M_pair 108 = .ok (.aload_n 0, 1) := by decide +kernel
theorem d_M_pair_109 : decode b_M_pair 109 = .ok (.getfield 38, 3) := by decide +kernel
theorem d_M_pair_112 : decode b_M_pair 112 = .ok (.sipush 2000, 3) := by decide +kernel
theorem d_M_pair_115 : decode b_M_pair 115 = .ok (.if_icmp .ne 6, 3) := by decide +kernel
theorem d_M_pair_118 : decode b_M_pair 118 = .ok (.bipush (-2), 2) := by decide +kernel
theorem d_M_pair_120 : decode b_M_pair 120 = .ok (.ireturn, 1) := by decide +kernel
theorem d_M_pair_121 : decode b_M_pair 121 = .ok (.aload_n 0, 1) := by decide +kernel
theorem d_M_pair_122 : decode b_M_pair 122 = .ok (.iconst 0, 1) := by decide +kernel
theorem d_M_pair_123 : decode b_M_pair 123 = .ok (.putfield 98, 3) := by decide +kernel
theorem d_M_pair_126 : decode b_M_pair 126 = .ok (.aload_n 0, 1) := by decide +kernel
theorem d_M_pair_127 : decode b_M_pair 127 = .ok (.bipush 7, 2) := by decide +kernel
theorem d_M_pair_129 : decode b_M_pair 129 = .ok (.invokevirtual 101, 3) := by decide +kernel
theorem d_M_pair_132 : decode b_M_pair 132 = .ok (.aload_n 0, 1) := by decide +kernel
theorem d_M_pair_133 : decode b_M_pair 133 = .ok (.bipush 7, 2) := by decide +kernel
theorem d_M_pair_135 : decode b_M_pair 135 = .ok (.invokevirtual 101, 3) := by decide +kernel
theorem d_M_pair_138 : decode b_M_pair 138 = .ok (.aload_n 0, 1) := by decide +kernel
theorem d_M_pair_139 : decode b_M_pair 139 = .ok (.iload_n 2, 1) := by decide +kernel
theorem d_M_pair_140 : decode b_M_pair 140 = .ok (.invokestatic 112, 3) := by decide +kernel
theorem d_M_pair_143 : decode b_M_pair 143 = .ok (.iload_n 2, 1) := by decide +kernel
theorem d_M_pair_144 : decode b_M_pair 144 = .ok (.invokestatic 112, 3) := by decide +kernel
theorem d_M_pair_147 : decode b_M_pair 147 = .ok (.aload_n 0, 1) := by decide +kernel
theorem d_M_pair_148 : decode b_M_pair 148 = .ok (.getfield 26, 3) := by decide +kernel
theorem d_M_pair_151 : decode b_M_pair 151 = .ok (.iload_n 2, 1) := by decide +kernel
theorem d_M_pair_152 : decode b_M_pair 152 = .ok (.iaload, 1) := by decide +kernel
theorem d_M_pair_153 : decode b_M_pair 153 = .ok (.iadd, 1) := by decide +kernel
theorem d_M_pair_154 : decode b_M_pair 154 = .ok (.invokevirtual 139, 3) := by decide +kernel
theorem d_M_pair_157 : decode b_M_pair 157 = .ok (.aload_n 0, 1) := by decide +kernel
theorem d_M_pair_158 : decode b_M_pair 158 = .ok (.iload_n 3, 1) := by decide +kernel
theorem d_M_pair_159 : decode b_M_pair 159 = .ok (.invokestatic 112, 3) := by decide +kernel
theorem d_M_pair_162 : decode b_M_pair 162 = .ok (.iload_n 3, 1) := by decide +kernel
theorem d_M_pair_163 : decode b_M_pair 163 = .ok (.invokestatic 112, 3) := by decide +kernel
theorem d_M_pair_166 : decode b_M_pair 166 = .ok (.aload_n 0, 1) := by decide +kernel
theorem d_M_pair_167 : decode b_M_pair 167 = .ok (.getfield 26, 3) := by decide +kernel
theorem d_M_pair_170 : decode b_M_pair 170 = .ok (.iload_n 3, 1) := by decide +kernel
theorem d_M_pair_171 : decode b_M_pair 171 = .ok (.iaload, 1) := by decide +kernel
theorem d_M_pair_172 : decode b_M_pair 172 = .ok (.iadd, 1) := by decide +kernel
theorem d_M_pair_173 : decode b_M_pair 173 = .ok (.invokevirtual 139, 3) := by decide +kernel
theorem d_M_pair_176 : decode b_M_pair 176 = .ok (.aload_n 0, 1) := by decide +kernel
theorem d_M_pair_177 : decode b_M_pair 177 = .ok (.iload_n 1, 1) := by decide +kernel
theorem d_M_pair_178 : decode b_M_pair 178 = .ok (.aload_n 0, 1) := by decide +kernel
theorem d_M_pair_179 : decode b_M_pair 179 = .ok (.bipush 18, 2) := by decide +kernel
theorem d_M_pair_181 : decode b_M_pair 181 = .ok (.aload_n 0, 1) := by decide +kernel
theorem d_M_pair_182 : decode b_M_pair 182 = .ok (.getfield 19, 3) := by decide +kernel
theorem d_M_pair_185 : decode b_M_pair 185 = .ok (.iload_n 2, 1) := by decide +kernel
theorem d_M_pair_186 : decode b_M_pair 186 = .ok (.iaload, 1) := by decide +kernel
theorem d_M_pair_187 : decode b_M_pair 187 = .ok (.aload_n 0, 1) := by decide +kernel
theorem d_M_pair_188 : decode b_M_pair 188 = .ok (.getfield 19, 3) := by decide +kernel
theorem d_M_pair_191 : decode b_M_pair 191 = .ok (.iload_n 3, 1) := by decide +kernel
theorem d_M_pair_192 : decode b_M_pair 192 = .ok (.iaload, 1) := by decide +kernel
theorem d_M_pair_193 : decode b_M_pair 193 = .ok (.invokevirtual 63, 3) := by decide +kernel
theorem d_M_pair_196 : decode b_M_pair 196 = .ok (.invokevirtual 121, 3) := by decide +kernel
theorem d_M_pair_199 : decode b_M_pair 199 = .ok (.ireturn, 1) := by decide +kernel
set_option maxHeartbeats 4000000 in
set_option maxRecDepth 100000 in
theorem p_M_pair (l : Launch) (D : va_G) (dT : Nat → ClassId) (H : Heap) (mm : Nat → Nat) (tb : Nat → TR) (tc : Nat) (RV : Nat → Option VT) (hI : mI D dT mm tb tc RV H) (r a b : Int32) : Met l y_M_pair w_M_pair ({ frames := 210, cells := 0, slots := 0, locals := 5400 }) (z_P D dT [.ref (mm 0), .int r, .int a, .int b] H) (z_Q (mA mm) (fun v H1 => v = some (.int (a_pair tb tc RV r a b).1) ∧ mI D dT mm (a_pair tb tc RV r a b).2.2.1 (a_pair tb tc RV r a b).2.2.2 (a_pair tb tc RV r a b).2.1 H1)) 0 0 (mA mm) := by
  obtain ⟨wd, lf, rt, ty, F, sz, Wk, wz, dg, dc, sh, hM, hO, hT, hR, hWk⟩ := hI
  have hF := hR.1
  have htc := hO.1
  have htc10 := hO.2.1
  refine Met.ofW (cc := b_M_pair) (maxL := 5) (ret := (Option.some .int)) (by decide) rfl ?_
  intro p e s m args below meth c s₁ B hml hv
  obtain ⟨rfl, rfl, hK⟩ := hv
  have hx := B.exec
  have hb := B.bytes
  have hr := B.returns
  have hts := atoms_spec (ws := w_M_pair) B.pre
  have ht : ∀ w9 ∈ gt, w9.before [.ref (mm 0), .int r, .int a, .int b].toArray s = true := fun w9 h => hts w9 (List.mem_cons_of_mem _ h)
  have hown : s.vm.findClass "ValueTreesModel" = some m.cls := findClass_of_methodNamed B.named
  have hlocks := B.notSynchronized
  have hS : va_S (mA mm) s.heap s.heap [] := va_S.rf
  have hl := lv_entry ([.ref (mm 0), .int r, .int a, .int b]) (n := 5) (Nat.le_of_ble_eq_true rfl)
  rw [lg_entry_eq]
  generalize (lg_sl ([.ref (mm 0), .int r, .int a, .int b]) ++ List.replicate (5 - (lg_sl ([.ref (mm 0), .int r, .int a, .int b])).length) Slot.unset).toArray = ls at hl ⊢
  have hl : lv_has ls 5 [(0, .ref (mm 0)), (1, .int r), (2, .int a), (3, .int b)] := hl
  refine lv_iload_n hx hb d_M_pair_0 rfl (lv_at hl 1 rfl) ?_
  refine z_callR (va_runS (As := [.int r]) (rest := []) ⟨hx, hb, hml, hown, hts⟩ (c_M_isRegister l D dT _ r) ⟨callB_of 1 hts (gI gd_up gd_c q619) rfl rfl rfl (ht _ q10) (ht _ q617) hd_M_isRegister ⟨Nat.le_of_ble_eq_true rfl, Nat.le_of_ble_eq_true rfl⟩, ht _ q618⟩ (z_preS hK) rfl rfl hl.1 rfl (lv_room (Nat.le_of_ble_eq_true rfl)) d_M_pair_1 ⟨Nat.zero_le _, Nat.zero_le _⟩) (fun v2 hv1 => ?_)
  have hv1 : v2 = .int (if inR r then 1 else 0) := hv1
  rcases Classical.em (inR r) with hq3 | hq3
  · rw [if_pos hq3] at hv1
    subst hv1
    refine lv_if_eq (tgt := 52) hx hb d_M_pair_4 (by decide) (fun c4 => absurd c4 (by decide)) (fun _ => ?_)
    obtain ⟨j, hj, rfl⟩ := inR_of hq3
    refine lv_aload_n hx hb d_M_pair_7 rfl (lv_at hl 0 rfl) ?_
    refine lv_iload_n hx hb d_M_pair_8 rfl (lv_at hl 2 rfl) ?_
    refine z_callR (va_runV (C := "ValueTreesModel") (As := [.int a]) (rest := []) ⟨hx, hb, hml, hown, hts⟩ (c_M_hasValue l D dT _ mm wd lf rt tc ty F sz Wk wz dg dc sh hM tb hO hT RV hR a) ⟨callB_of 1 hts (gI gd_up gd_c q662) rfl rfl rfl (ht _ q10) (ht _ q659) hd_M_hasValue ⟨Nat.le_of_ble_eq_true rfl, Nat.le_of_ble_eq_true rfl⟩, ht _ q661, ht _ qs27⟩ (z_preV hK (va_recv hK.1 hM.1 (ci := 10) (q0 := 0) rfl rfl)) rfl rfl hl.1 rfl (lv_room (Nat.le_of_ble_eq_true rfl)) d_M_pair_9 ⟨Nat.zero_le _, Nat.zero_le _⟩) (fun v6 hv5 => ?_)
    have hv5 : v6 = .int (if (rgs RV a).isSome = true then 1 else 0) := hv5
    cases hr7 : rgs RV a with
    | none =>
      rw [hr7] at hv5
      subst hv5
      try dsimp only
      refine W.eq (g2 := F0 m 12 ls [.int 0]) rfl ?_
      refine lv_if_eq (tgt := 52) hx hb d_M_pair_12 (by decide) (fun _ => ?_) (fun c10 => absurd c10 (by decide))
      refine lv_iconst (v := (-1)) hx hb d_M_pair_52 (by decide) ?_
      refine z_iretQ hx hb hr hlocks d_M_pair_53 hS (Nat.le_refl _) (Nat.le_refl _) ?_
      rw [pr_no (Or.inl hr7)]
      exact ⟨rfl, _, _, _, _, _, _, _, _, _, _, _, hM, hO, hT, hR, hWk⟩
    | some v8 =>
      rw [hr7] at hv5
      subst hv5
      refine W.eq (g2 := F0 m 12 ls [.int 1]) rfl ?_
      obtain ⟨j9, hj9, rfl, hV8⟩ := rgs_some hr7
      obtain ⟨ht8, et8, hw8, es8, hn8, hf8⟩ := mR_some hR hj9 hV8
      refine lv_if_eq (tgt := 52) hx hb d_M_pair_12 (by decide) (fun c11 => absurd c11 (by decide)) (fun _ => ?_)
      refine lv_aload_n hx hb d_M_pair_15 rfl (lv_at hl 0 rfl) ?_
      refine lv_iload_n hx hb d_M_pair_16 rfl (lv_at hl 3 rfl) ?_
      refine z_callR (va_runV (C := "ValueTreesModel") (As := [.int b]) (rest := []) ⟨hx, hb, hml, hown, hts⟩ (c_M_hasValue l D dT _ mm wd lf rt tc ty F sz Wk wz dg dc sh hM tb hO hT RV hR b) ⟨callB_of 1 hts (gI gd_up gd_c q662) rfl rfl rfl (ht _ q10) (ht _ q659) hd_M_hasValue ⟨Nat.le_of_ble_eq_true rfl, Nat.le_of_ble_eq_true rfl⟩, ht _ q661, ht _ qs27⟩ (z_preV hK (va_recv hK.1 hM.1 (ci := 10) (q0 := 0) rfl rfl)) rfl rfl hl.1 rfl (lv_room (Nat.le_of_ble_eq_true rfl)) d_M_pair_17 ⟨Nat.zero_le _, Nat.zero_le _⟩) (fun v13 hv12 => ?_)
      have hv12 : v13 = .int (if (rgs RV b).isSome = true then 1 else 0) := hv12
      cases hr14 : rgs RV b with
      | none =>
        rw [hr14] at hv12
        subst hv12
        try dsimp only
        refine W.eq (g2 := F0 m 20 ls [.int 0]) rfl ?_
        refine lv_if_eq (tgt := 52) hx hb d_M_pair_20 (by decide) (fun _ => ?_) (fun c17 => absurd c17 (by decide))
        refine lv_iconst (v := (-1)) hx hb d_M_pair_52 (by decide) ?_
        refine z_iretQ hx hb hr hlocks d_M_pair_53 hS (Nat.le_refl _) (Nat.le_refl _) ?_
        rw [pr_no (Or.inr (Or.inl hr14))]
        exact ⟨rfl, _, _, _, _, _, _, _, _, _, _, _, hM, hO, hT, hR, hWk⟩
      | some v15 =>
        rw [hr14] at hv12
        subst hv12
        refine W.eq (g2 := F0 m 20 ls [.int 1]) rfl ?_
        obtain ⟨j16, hj16, rfl, hV15⟩ := rgs_some hr14
        obtain ⟨ht15, et15, hw15, es15, hn15, hf15⟩ := mR_some hR hj16 hV15
        refine lv_if_eq (tgt := 52) hx hb d_M_pair_20 (by decide) (fun c18 => absurd c18 (by decide)) (fun _ => ?_)
        refine lv_iconst (v := 1) hx hb d_M_pair_23 (by decide) ?_
        refine lv_aload_n hx hb d_M_pair_24 rfl (lv_at hl 0 rfl) ?_
        refine lv_aload_n hx hb d_M_pair_25 rfl (lv_at hl 0 rfl) ?_
        refine va_get (D := D) (ci := 10) (v := .ref (mm 4)) (C := "ValueTreesModel") (T := T_M) (N := 12) hx hb ht in_M hown hK.1 hM.1 0 rfl rfl 4 (by decide) (ht _ q543) (fun _ h9 => h9) rfl d_M_pair_26 ?_
        refine lv_iload_n hx hb d_M_pair_29 rfl (lv_at hl 2 rfl) ?_
        refine z_iald hx hb hK (hM.1 4 _ rfl) j9 rfl (by omega) (by decide) d_M_pair_30 ?_
        rw [et8]
        refine z_callR (va_runV (C := "ValueTreesModel") (As := [.int (nI (vty v8))]) (rest := [.int 1]) ⟨hx, hb, hml, hown, hts⟩ (c_M_parts l D dT _ mm wd lf rt tc ty F sz Wk wz dg dc sh hM tb hO hT 200 (vty v8) (by omega) (hO.2.2 _ (by omega)).2.2.2.2.2.2.2.2.1) ⟨callB_of 1 hts (gI gd_up gd_c q592) rfl rfl rfl (ht _ q10) (ht _ q589) hd_M_parts ⟨Nat.le_of_ble_eq_true rfl, Nat.le_of_ble_eq_true rfl⟩, ht _ q591, ht _ qs15⟩ (z_preV hK (va_recv hK.1 hM.1 (ci := 10) (q0 := 0) rfl rfl)) rfl rfl hl.1 rfl (lv_room (Nat.le_of_ble_eq_true rfl)) d_M_pair_31 ⟨Nat.zero_le _, Nat.zero_le _⟩) (fun v20 hv19 => ?_)
        subst hv19
        have htp20 := (hO.2.2 (vty v8) (by omega)).2.2.2.2.2.2.2.2.1
        refine lv_iadd hx hb d_M_pair_34 ?_
        rw [show ((1 + (nI (tP (tb (vty v8))))) : Int32) = nI (1 + (tP (tb (vty v8)))) from nI_add 1 (tP (tb (vty v8)))]
        refine lv_aload_n hx hb d_M_pair_35 rfl (lv_at hl 0 rfl) ?_
        refine lv_aload_n hx hb d_M_pair_36 rfl (lv_at hl 0 rfl) ?_
        refine va_get (D := D) (ci := 10) (v := .ref (mm 4)) (C := "ValueTreesModel") (T := T_M) (N := 12) hx hb ht in_M hown hK.1 hM.1 0 rfl rfl 4 (by decide) (ht _ q543) (fun _ h9 => h9) rfl d_M_pair_37 ?_
        refine lv_iload_n hx hb d_M_pair_40 rfl (lv_at hl 3 rfl) ?_
        refine z_iald hx hb hK (hM.1 4 _ rfl) j16 rfl (by omega) (by decide) d_M_pair_41 ?_
        rw [et15]
        refine z_callR (va_runV (C := "ValueTreesModel") (As := [.int (nI (vty v15))]) (rest := [.int (nI (1 + (tP (tb (vty v8)))))]) ⟨hx, hb, hml, hown, hts⟩ (c_M_parts l D dT _ mm wd lf rt tc ty F sz Wk wz dg dc sh hM tb hO hT 200 (vty v15) (by omega) (hO.2.2 _ (by omega)).2.2.2.2.2.2.2.2.1) ⟨callB_of 1 hts (gI gd_up gd_c q592) rfl rfl rfl (ht _ q10) (ht _ q589) hd_M_parts ⟨Nat.le_of_ble_eq_true rfl, Nat.le_of_ble_eq_true rfl⟩, ht _ q591, ht _ qs15⟩ (z_preV hK (va_recv hK.1 hM.1 (ci := 10) (q0 := 0) rfl rfl)) rfl rfl hl.1 rfl (lv_room (Nat.le_of_ble_eq_true rfl)) d_M_pair_42 ⟨Nat.zero_le _, Nat.zero_le _⟩) (fun v22 hv21 => ?_)
        subst hv21
        have htp22 := (hO.2.2 (vty v15) (by omega)).2.2.2.2.2.2.2.2.1
        refine lv_iadd hx hb d_M_pair_45 ?_
        rw [show (((nI (1 + (tP (tb (vty v8))))) + (nI (tP (tb (vty v15))))) : Int32) = nI ((1 + (tP (tb (vty v8)))) + (tP (tb (vty v15)))) from nI_add (1 + (tP (tb (vty v8)))) (tP (tb (vty v15)))]
        refine lv_sipush (v := 200) hx hb d_M_pair_46 (by decide) ?_
        refine lv_icmp_le (tgt := 54) hx hb d_M_pair_49 (by decide) (fun c23 => ?_) (fun c23 => ?_)
        · have nc23 : ((1 + (tP (tb (vty v8)))) + (tP (tb (vty v15)))) ≤ 200 := (nI_leI (a := ((1 + (tP (tb (vty v8)))) + (tP (tb (vty v15))))) (b := 200) (by omega) (by omega)).mp c23
          have hpp : 1 + tP (tb (vty v8)) + tP (tb (vty v15)) ≤ 200 := nc23
          refine lv_aload_n hx hb d_M_pair_54 rfl (lv_at hl 0 rfl) ?_
          refine lv_bipush (v := 18) hx hb d_M_pair_55 (by decide) ?_
          refine lv_aload_n hx hb d_M_pair_57 rfl (lv_at hl 0 rfl) ?_
          refine va_get (D := D) (ci := 10) (v := .ref (mm 4)) (C := "ValueTreesModel") (T := T_M) (N := 12) hx hb ht in_M hown hK.1 hM.1 0 rfl rfl 4 (by decide) (ht _ q543) (fun _ h9 => h9) rfl d_M_pair_58 ?_
          refine lv_iload_n hx hb d_M_pair_61 rfl (lv_at hl 2 rfl) ?_
          refine z_iald hx hb hK (hM.1 4 _ rfl) j9 rfl (by omega) (by decide) d_M_pair_62 ?_
          rw [et8]
          refine lv_aload_n hx hb d_M_pair_63 rfl (lv_at hl 0 rfl) ?_
          refine va_get (D := D) (ci := 10) (v := .ref (mm 4)) (C := "ValueTreesModel") (T := T_M) (N := 12) hx hb ht in_M hown hK.1 hM.1 0 rfl rfl 4 (by decide) (ht _ q543) (fun _ h9 => h9) rfl d_M_pair_64 ?_
          refine lv_iload_n hx hb d_M_pair_67 rfl (lv_at hl 3 rfl) ?_
          refine z_iald hx hb hK (hM.1 4 _ rfl) j16 rfl (by omega) (by decide) d_M_pair_68 ?_
          rw [et15]
          refine z_callR (va_runV (C := "ValueTreesModel") (As := [.int 18, .int (nI (vty v8)), .int (nI (vty v15))]) (rest := []) ⟨hx, hb, hml, hown, hts⟩ (c_M_find l D dT _ mm wd lf rt tc ty F sz Wk wz dg dc sh hM 18 (nI (vty v8)) (nI (vty v15)) htc) ⟨callB_of 3 hts (gI gd_up gd_c q596) rfl rfl rfl (ht _ q10) (ht _ q593) hd_M_find ⟨Nat.le_of_ble_eq_true rfl, Nat.le_of_ble_eq_true rfl⟩, ht _ q595, ht _ qs16⟩ (z_preV hK (va_recv hK.1 hM.1 (ci := 10) (q0 := 0) rfl rfl)) rfl rfl hl.1 rfl (lv_room (Nat.le_of_ble_eq_true rfl)) d_M_pair_69 ⟨Nat.zero_le _, Nat.zero_le _⟩) (fun v25 hv24 => ?_)
          rcases find_fork hO hT (w := 18) (L := some (vty v8)) (R := some (vty v15)) (by decide) (fun k hk => by cases hk; exact ht8) (fun k hk => by cases hk; exact ht15) hv24 with ⟨tf, htf, hfd, hisf, rfl⟩ | ⟨hfd, rfl⟩
          · refine lv_if_ge (tgt := 79) hx hb d_M_pair_72 (by decide) (fun c26 => ?_) (fun c26 => absurd (nI_pos' (by omega)) c26)
            refine lv_iconst (v := 0) hx hb d_M_pair_79 (by decide) ?_
            refine lv_istore (lv' := [(4, .int 0), (0, .ref (mm 0)), (1, .int (nI j)), (2, .int (nI j9)), (3, .int (nI j16))]) hx hb d_M_pair_80 hl (by decide) rfl (fun ls hl => ?_)
            refine lv_iconst (v := 2) hx hb d_M_pair_82 (by decide) ?_
            refine lv_aload_n hx hb d_M_pair_83 rfl (lv_at hl 1 rfl) ?_
            refine va_get (D := D) (ci := 10) (v := .ref (mm 6)) (C := "ValueTreesModel") (T := T_M) (N := 12) hx hb ht in_M hown hK.1 hM.1 0 rfl rfl 6 (by decide) (ht _ q545) (fun _ h9 => h9) rfl d_M_pair_84 ?_
            refine lv_iload_n hx hb d_M_pair_87 rfl (lv_at hl 3 rfl) ?_
            refine z_iald hx hb hK (hM.1 6 _ rfl) j9 rfl (by omega) (by decide) d_M_pair_88 ?_
            rw [es8]
            refine lv_iadd hx hb d_M_pair_89 ?_
            rw [show ((2 + (nI (cs v8).length)) : Int32) = nI (2 + ((cs v8).length)) from nI_add 2 ((cs v8).length)]
            refine lv_aload_n hx hb d_M_pair_90 rfl (lv_at hl 1 rfl) ?_
            refine va_get (D := D) (ci := 10) (v := .ref (mm 6)) (C := "ValueTreesModel") (T := T_M) (N := 12) hx hb ht in_M hown hK.1 hM.1 0 rfl rfl 6 (by decide) (ht _ q545) (fun _ h9 => h9) rfl d_M_pair_91 ?_
            refine lv_iload_n hx hb d_M_pair_94 rfl (lv_at hl 4 rfl) ?_
            refine z_iald hx hb hK (hM.1 6 _ rfl) j16 rfl (by omega) (by decide) d_M_pair_95 ?_
            rw [es15]
            refine lv_iadd hx hb d_M_pair_96 ?_
            rw [show (((nI (2 + ((cs v8).length))) + (nI (cs v15).length)) : Int32) = nI ((2 + ((cs v8).length)) + ((cs v15).length)) from nI_add (2 + ((cs v8).length)) ((cs v15).length)]
            refine lv_sipush (v := 160) hx hb d_M_pair_97 (by decide) ?_
            refine lv_icmp_gt (tgt := 118) hx hb d_M_pair_100 (by decide) (fun c27 => ?_) (fun c27 => ?_)
            · have nc27 : 160 < ((2 + ((cs v8).length)) + ((cs v15).length)) := (nI_ltI (a := 160) (b := ((2 + ((cs v8).length)) + ((cs v15).length))) (by omega) (by omega)).mp c27
              refine lv_bipush (v := (-2)) hx hb d_M_pair_118 (by decide) ?_
              refine z_iretQ hx hb hr hlocks d_M_pair_120 hS (Nat.le_refl _) (Nat.le_refl _) ?_
              rw [pr_full (by rw [rgs_nI hj9, hV8]) (by rw [rgs_nI hj16, hV15]) (inR_nI hj) hpp (Or.inl (by omega))]
              exact ⟨rfl, _, _, _, _, _, _, _, _, _, _, _, hM, hO, hT, hR, hWk⟩
            · have nc27 : ¬ 160 < ((2 + ((cs v8).length)) + ((cs v15).length)) := fun h9 => c27 ((nI_ltI (a := 160) (b := ((2 + ((cs v8).length)) + ((cs v15).length))) (by omega) (by omega)).mpr h9)
              refine lv_iload hx hb d_M_pair_103 (lv_at hl 0 rfl) ?_
              refine lv_if_eq (tgt := 121) hx hb d_M_pair_105 (by decide) (fun _ => ?_) (fun c28 => absurd c28 (by decide))
              refine lv_aload_n hx hb d_M_pair_121 rfl (lv_at hl 1 rfl) ?_
              refine lv_iconst (v := 0) hx hb d_M_pair_122 (by decide) ?_
              refine m_put_wz hx hb ht hown hK hM hS (ht _ q547) 0 rfl d_M_pair_123 (fun H locs hM hS => ?_)
              have hM : mAt D dT mm wd lf rt tc ty F sz Wk 0 dg dc sh H := hM
              have hW : wAt Wk ([] : List Nat) := wAt_nil hWk
              have hM : mAt D dT mm wd lf rt tc ty F sz Wk (([] : List Nat).length) dg dc sh H := hM
              refine lv_aload_n hx hb d_M_pair_126 rfl (lv_at hl 1 rfl) ?_
              refine lv_bipush (v := 7) hx hb d_M_pair_127 (by decide) ?_
              refine z_callQ (va_runV (C := "ValueTreesModel") (As := [.int 7]) (rest := []) ⟨hx, hb, hml, hown, hts⟩ (c_M_lay l D dT _ mm wd lf rt tc ty F sz Wk ([] : List Nat) dg dc sh hM hW 7 (by (try simp only [List.length_append, List.length_cons, List.length_nil, size4_len]); omega)) ⟨callB_of 1 hts (gI gd_up gd_c q635) rfl rfl rfl (ht _ q10) (ht _ q632) hd_M_lay ⟨Nat.le_of_ble_eq_true rfl, Nat.le_of_ble_eq_true rfl⟩, ht _ q634, ht _ qs22⟩ (z_preV hK (va_recv hK.1 hM.1 (ci := 10) (q0 := 0) rfl rfl)) rfl rfl hl.1 rfl (lv_room (Nat.le_of_ble_eq_true rfl)) d_M_pair_129 ⟨Nat.le_refl _, Nat.le_refl _⟩) hS (fun _ h9 => h9) (fun v30 H locs hv29 hz31 hf32 hS => ?_)
              obtain ⟨rfl, Wk, hW, hWk33, hM⟩ := hv29
              refine W.eq (g2 := F0 m 132 ls []) rfl ?_
              refine lv_aload_n hx hb d_M_pair_132 rfl (lv_at hl 1 rfl) ?_
              refine lv_bipush (v := 7) hx hb d_M_pair_133 (by decide) ?_
              refine z_callQ (va_runV (C := "ValueTreesModel") (As := [.int 7]) (rest := []) ⟨hx, hb, hml, hown, hts⟩ (c_M_lay l D dT _ mm wd lf rt tc ty F sz Wk (([] : List Nat) ++ [7 % 256]) dg dc sh hM hW 7 (by (try simp only [List.length_append, List.length_cons, List.length_nil, size4_len]); omega)) ⟨callB_of 1 hts (gI gd_up gd_c q635) rfl rfl rfl (ht _ q10) (ht _ q632) hd_M_lay ⟨Nat.le_of_ble_eq_true rfl, Nat.le_of_ble_eq_true rfl⟩, ht _ q634, ht _ qs22⟩ (z_preV hK (va_recv hK.1 hM.1 (ci := 10) (q0 := 0) rfl rfl)) rfl rfl hl.1 rfl (lv_room (Nat.le_of_ble_eq_true rfl)) d_M_pair_135 ⟨Nat.le_refl _, Nat.le_refl _⟩) hS (fun _ h9 => h9) (fun v35 H locs hv34 hz36 hf37 hS => ?_)
              obtain ⟨rfl, Wk, hW, hWk38, hM⟩ := hv34
              refine W.eq (g2 := F0 m 138 ls []) rfl ?_
              refine lv_aload_n hx hb d_M_pair_138 rfl (lv_at hl 1 rfl) ?_
              refine lv_iload_n hx hb d_M_pair_139 rfl (lv_at hl 3 rfl) ?_
              refine z_callR (va_runS (As := [.int (nI j9)]) (rest := [.ref (mm 0)]) ⟨hx, hb, hml, hown, hts⟩ (c_M_base l D dT _ (nI j9)) ⟨callB_of 1 hts (gI gd_up gd_c q650) rfl rfl rfl (ht _ q10) (ht _ q648) hd_M_base ⟨Nat.le_of_ble_eq_true rfl, Nat.le_of_ble_eq_true rfl⟩, ht _ q649⟩ (z_preS hK) rfl rfl hl.1 rfl (lv_room (Nat.le_of_ble_eq_true rfl)) d_M_pair_140 ⟨Nat.zero_le _, Nat.zero_le _⟩) (fun v40 hv39 => ?_)
              subst hv39
              rw [show (160 * nI j9 : Int32) = nI (160 * j9) from pk_mul 160 j9]
              refine lv_iload_n hx hb d_M_pair_143 rfl (lv_at hl 3 rfl) ?_
              refine z_callR (va_runS (As := [.int (nI j9)]) (rest := [.int (nI (160 * j9)), .ref (mm 0)]) ⟨hx, hb, hml, hown, hts⟩ (c_M_base l D dT _ (nI j9)) ⟨callB_of 1 hts (gI gd_up gd_c q650) rfl rfl rfl (ht _ q10) (ht _ q648) hd_M_base ⟨Nat.le_of_ble_eq_true rfl, Nat.le_of_ble_eq_true rfl⟩, ht _ q649⟩ (z_preS hK) rfl rfl hl.1 rfl (lv_room (Nat.le_of_ble_eq_true rfl)) d_M_pair_144 ⟨Nat.zero_le _, Nat.zero_le _⟩) (fun v42 hv41 => ?_)
              subst hv41
              rw [show (160 * nI j9 : Int32) = nI (160 * j9) from pk_mul 160 j9]
              refine lv_aload_n hx hb d_M_pair_147 rfl (lv_at hl 1 rfl) ?_
              refine va_get (D := D) (ci := 10) (v := .ref (mm 6)) (C := "ValueTreesModel") (T := T_M) (N := 12) hx hb ht in_M hown hK.1 hM.1 0 rfl rfl 6 (by decide) (ht _ q545) (fun _ h9 => h9) rfl d_M_pair_148 ?_
              refine lv_iload_n hx hb d_M_pair_151 rfl (lv_at hl 3 rfl) ?_
              refine z_iald hx hb hK (hM.1 6 _ rfl) j9 rfl (by omega) (by decide) d_M_pair_152 ?_
              rw [es8]
              refine lv_iadd hx hb d_M_pair_153 ?_
              rw [show (((nI (160 * j9)) + (nI (cs v8).length)) : Int32) = nI ((160 * j9) + ((cs v8).length)) from nI_add (160 * j9) ((cs v8).length)]
              refine z_callQ (va_runV (C := "ValueTreesModel") (As := [.int (nI (160 * j9)), .int (nI ((160 * j9) + ((cs v8).length)))]) (rest := []) ⟨hx, hb, hml, hown, hts⟩ (c_M_putFrom l D dT _ mm wd lf rt tc ty F sz Wk (([] : List Nat) ++ [7 % 256] ++ [7 % 256]) dg dc sh hM hW hF (160 * j9) (cs v8) hf8 (by omega) (by (try simp only [List.length_append, List.length_cons, List.length_nil, size4_len]); omega)) ⟨callB_of 2 hts (gI gd_up gd_c q707) rfl rfl rfl (ht _ q10) (ht _ q704) hd_M_putFrom ⟨Nat.le_of_ble_eq_true rfl, Nat.le_of_ble_eq_true rfl⟩, ht _ q706, ht _ qs33⟩ (z_preV hK (va_recv hK.1 hM.1 (ci := 10) (q0 := 0) rfl rfl)) rfl rfl hl.1 rfl (lv_room (Nat.le_of_ble_eq_true rfl)) d_M_pair_154 ⟨Nat.le_refl _, Nat.le_refl _⟩) hS (fun _ h9 => h9) (fun v44 H locs hv43 hz45 hf46 hS => ?_)
              obtain ⟨rfl, Wk, hW, hM⟩ := hv43
              refine W.eq (g2 := F0 m 157 ls []) rfl ?_
              refine lv_aload_n hx hb d_M_pair_157 rfl (lv_at hl 1 rfl) ?_
              refine lv_iload_n hx hb d_M_pair_158 rfl (lv_at hl 4 rfl) ?_
              refine z_callR (va_runS (As := [.int (nI j16)]) (rest := [.ref (mm 0)]) ⟨hx, hb, hml, hown, hts⟩ (c_M_base l D dT _ (nI j16)) ⟨callB_of 1 hts (gI gd_up gd_c q650) rfl rfl rfl (ht _ q10) (ht _ q648) hd_M_base ⟨Nat.le_of_ble_eq_true rfl, Nat.le_of_ble_eq_true rfl⟩, ht _ q649⟩ (z_preS hK) rfl rfl hl.1 rfl (lv_room (Nat.le_of_ble_eq_true rfl)) d_M_pair_159 ⟨Nat.zero_le _, Nat.zero_le _⟩) (fun v48 hv47 => ?_)
              subst hv47
              rw [show (160 * nI j16 : Int32) = nI (160 * j16) from pk_mul 160 j16]
              refine lv_iload_n hx hb d_M_pair_162 rfl (lv_at hl 4 rfl) ?_
              refine z_callR (va_runS (As := [.int (nI j16)]) (rest := [.int (nI (160 * j16)), .ref (mm 0)]) ⟨hx, hb, hml, hown, hts⟩ (c_M_base l D dT _ (nI j16)) ⟨callB_of 1 hts (gI gd_up gd_c q650) rfl rfl rfl (ht _ q10) (ht _ q648) hd_M_base ⟨Nat.le_of_ble_eq_true rfl, Nat.le_of_ble_eq_true rfl⟩, ht _ q649⟩ (z_preS hK) rfl rfl hl.1 rfl (lv_room (Nat.le_of_ble_eq_true rfl)) d_M_pair_163 ⟨Nat.zero_le _, Nat.zero_le _⟩) (fun v50 hv49 => ?_)
              subst hv49
              rw [show (160 * nI j16 : Int32) = nI (160 * j16) from pk_mul 160 j16]
              refine lv_aload_n hx hb d_M_pair_166 rfl (lv_at hl 1 rfl) ?_
              refine va_get (D := D) (ci := 10) (v := .ref (mm 6)) (C := "ValueTreesModel") (T := T_M) (N := 12) hx hb ht in_M hown hK.1 hM.1 0 rfl rfl 6 (by decide) (ht _ q545) (fun _ h9 => h9) rfl d_M_pair_167 ?_
              refine lv_iload_n hx hb d_M_pair_170 rfl (lv_at hl 4 rfl) ?_
              refine z_iald hx hb hK (hM.1 6 _ rfl) j16 rfl (by omega) (by decide) d_M_pair_171 ?_
              rw [es15]
              refine lv_iadd hx hb d_M_pair_172 ?_
              rw [show (((nI (160 * j16)) + (nI (cs v15).length)) : Int32) = nI ((160 * j16) + ((cs v15).length)) from nI_add (160 * j16) ((cs v15).length)]
              refine z_callQ (va_runV (C := "ValueTreesModel") (As := [.int (nI (160 * j16)), .int (nI ((160 * j16) + ((cs v15).length)))]) (rest := []) ⟨hx, hb, hml, hown, hts⟩ (c_M_putFrom l D dT _ mm wd lf rt tc ty F sz Wk (([] : List Nat) ++ [7 % 256] ++ [7 % 256] ++ (cs v8)) dg dc sh hM hW hF (160 * j16) (cs v15) hf15 (by omega) (by (try simp only [List.length_append, List.length_cons, List.length_nil, size4_len]); omega)) ⟨callB_of 2 hts (gI gd_up gd_c q707) rfl rfl rfl (ht _ q10) (ht _ q704) hd_M_putFrom ⟨Nat.le_of_ble_eq_true rfl, Nat.le_of_ble_eq_true rfl⟩, ht _ q706, ht _ qs33⟩ (z_preV hK (va_recv hK.1 hM.1 (ci := 10) (q0 := 0) rfl rfl)) rfl rfl hl.1 rfl (lv_room (Nat.le_of_ble_eq_true rfl)) d_M_pair_173 ⟨Nat.le_refl _, Nat.le_refl _⟩) hS (fun _ h9 => h9) (fun v52 H locs hv51 hz53 hf54 hS => ?_)
              obtain ⟨rfl, Wk, hW, hM⟩ := hv51
              refine W.eq (g2 := F0 m 176 ls []) rfl ?_
              refine lv_aload_n hx hb d_M_pair_176 rfl (lv_at hl 1 rfl) ?_
              refine lv_iload_n hx hb d_M_pair_177 rfl (lv_at hl 2 rfl) ?_
              refine lv_aload_n hx hb d_M_pair_178 rfl (lv_at hl 1 rfl) ?_
              refine lv_bipush (v := 18) hx hb d_M_pair_179 (by decide) ?_
              refine lv_aload_n hx hb d_M_pair_181 rfl (lv_at hl 1 rfl) ?_
              refine va_get (D := D) (ci := 10) (v := .ref (mm 4)) (C := "ValueTreesModel") (T := T_M) (N := 12) hx hb ht in_M hown hK.1 hM.1 0 rfl rfl 4 (by decide) (ht _ q543) (fun _ h9 => h9) rfl d_M_pair_182 ?_
              refine lv_iload_n hx hb d_M_pair_185 rfl (lv_at hl 3 rfl) ?_
              refine z_iald hx hb hK (hM.1 4 _ rfl) j9 rfl (by omega) (by decide) d_M_pair_186 ?_
              rw [et8]
              refine lv_aload_n hx hb d_M_pair_187 rfl (lv_at hl 1 rfl) ?_
              refine va_get (D := D) (ci := 10) (v := .ref (mm 4)) (C := "ValueTreesModel") (T := T_M) (N := 12) hx hb ht in_M hown hK.1 hM.1 0 rfl rfl 4 (by decide) (ht _ q543) (fun _ h9 => h9) rfl d_M_pair_188 ?_
              refine lv_iload_n hx hb d_M_pair_191 rfl (lv_at hl 4 rfl) ?_
              refine z_iald hx hb hK (hM.1 4 _ rfl) j16 rfl (by omega) (by decide) d_M_pair_192 ?_
              rw [et15]
              refine z_callQ (va_runV (C := "ValueTreesModel") (As := [.int 18, .int (nI (vty v8)), .int (nI (vty v15))]) (rest := [.int (nI j), .ref (mm 0)]) ⟨hx, hb, hml, hown, hts⟩ (c_M_typeFor l D dT _ mm wd lf rt tc ty F sz Wk ((([] : List Nat) ++ [7 % 256] ++ [7 % 256] ++ (cs v8) ++ (cs v15)).length) dg dc sh hM tb hO hT 18 (vty v8) (some (vty v15)) ⟨by decide, by decide, ht8, ⟨(fun h9 => by cases h9), fun h9 => absurd h9 (by decide)⟩, (fun k hk => by cases hk; exact ht15), hpp, (fun h9 => absurd h9 (by decide))⟩ (fun h9 => by rw [hfd] at h9; cases h9)) ⟨callB_of 3 hts (gI gd_up gd_c q600) rfl rfl rfl (ht _ q10) (ht _ q597) hd_M_typeFor ⟨Nat.le_of_ble_eq_true rfl, Nat.le_of_ble_eq_true rfl⟩, ht _ q599, ht _ qs17⟩ (z_preV hK (va_recv hK.1 hM.1 (ci := 10) (q0 := 0) rfl rfl)) rfl rfl hl.1 rfl (lv_room (Nat.le_of_ble_eq_true rfl)) d_M_pair_193 ⟨Nat.le_refl _, Nat.le_refl _⟩) hS (fun _ h9 => h9) (fun v56 H locs hv55 hz57 hf58 hS => ?_)
              obtain ⟨t9, tb2, tc2, wd2, lf2, rt2, hnum, rfl, hlt9, hO2, hT2, hext, htc2, hisT, hM⟩ := hv55
              refine W.eq (g2 := F0 m 196 ls [.int (nI t9), .int (nI j), .ref (mm 0)]) rfl ?_
              have hxw : wty tb2 (.pow (.add v8 v15) t9) 0 t9 := ⟨rfl, rfl, Or.inl ⟨rfl, hisT.1⟩, by rw [show lt_ tb2 t9 = vty v8 by unfold lt_; rw [hisT.2.1]; rfl]; exact wty_ext hO hext _ 0 _ ht8 hw8, by rw [show rt_ tb2 t9 = vty v15 by unfold rt_; rw [hisT.2.2]; rfl]; exact wty_ext hO hext _ 0 _ ht15 hw15⟩
              have ebs : ([] : List Nat) ++ [7 % 256] ++ [7 % 256] ++ (cs v8) ++ (cs v15) = cs (.pow (.add v8 v15) t9) := (by simp [cs, hdr])
              rw [ebs] at hW hM
              refine z_callQ (va_runV (C := "ValueTreesModel") (As := [.int (nI j), .int (nI t9)]) (rest := []) ⟨hx, hb, hml, hown, hts⟩ (c_M_keep l D dT _ mm wd2 lf2 rt2 tc2 ty F sz Wk (cs (.pow (.add v8 v15) t9)) dg dc sh hM hW j t9 hj (by rw [← ebs]; simp only [List.length_append, List.length_cons, List.length_nil, size4_len]; omega)) ⟨callB_of 2 hts (gI gd_up gd_c q647) rfl rfl rfl (ht _ q10) (ht _ q644) hd_M_keep ⟨Nat.le_of_ble_eq_true rfl, Nat.le_of_ble_eq_true rfl⟩, ht _ q646, ht _ qs25⟩ (z_preV hK (va_recv hK.1 hM.1 (ci := 10) (q0 := 0) rfl rfl)) rfl rfl hl.1 rfl (lv_room (Nat.le_of_ble_eq_true rfl)) d_M_pair_196 ⟨Nat.le_refl _, Nat.le_refl _⟩) hS (fun _ h9 => h9) (fun v60 H locs hv59 hz61 hf62 hS => ?_)
              rcases hv59 with ⟨hk1, rfl, hM⟩ | ⟨hk1, rfl, hM⟩
              · refine W.eq (g2 := F0 m 199 ls [.int (-2)]) rfl ?_
                refine z_iretQ hx hb hr hlocks d_M_pair_199 hS (Nat.le_refl _) (Nat.le_refl _) ?_
                have hlx : (cs (.pow (.add v8 v15) t9)).length = 2 + (cs v8).length + (cs v15).length := l_add
                exact absurd hk1 (by omega)
              · refine W.eq (g2 := F0 m 199 ls [.int (nI (cs (.pow (.add v8 v15) t9)).length)]) rfl ?_
                refine z_iretQ hx hb hr hlocks d_M_pair_199 hS (Nat.le_refl _) (Nat.le_refl _) ?_
                have hlx : (cs (.pow (.add v8 v15) t9)).length = 2 + (cs v8).length + (cs v15).length := l_add
                obtain ⟨hy1, hy2⟩ := kO_done (x := (.pow (.add v8 v15) t9)) ⟨_, _, _, _, _, hW.1, Or.inr ⟨hk1, rfl, hM⟩⟩ hO2 hT2 (mR_ext hO hext htc2 hR) hj hlt9 hxw
                have ek : kp RV (nI j) (some (.pow (.add v8 v15) t9)) = (nI (cs (.pow (.add v8 v15) t9)).length, updR RV j (some (.pow (.add v8 v15) t9))) := by unfold kp; dsimp only; rw [if_pos (inR_nI hj), if_neg (by omega), nI_clamp (by omega)]
                rw [ek] at hy1 hy2
                rw [pr_some (by rw [rgs_nI hj9, hV8]) (by rw [rgs_nI hj16, hV15]) (inR_nI hj) hpp (by omega) hnum, nI_clamp (show j < 2 ^ 31 by omega), ← hlx]
                exact ⟨hy1, hy2⟩
          · refine lv_if_ge (tgt := 79) hx hb d_M_pair_72 (by decide) (fun c63 => absurd c63 (by decide)) (fun _ => ?_)
            refine lv_iconst (v := 1) hx hb d_M_pair_75 (by decide) ?_
            refine lv_goto (tgt := 80) hx hb d_M_pair_76 (by decide) ?_
            refine lv_istore (lv' := [(4, .int 1), (0, .ref (mm 0)), (1, .int (nI j)), (2, .int (nI j9)), (3, .int (nI j16))]) hx hb d_M_pair_80 hl (by decide) rfl (fun ls hl => ?_)
            refine lv_iconst (v := 2) hx hb d_M_pair_82 (by decide) ?_
            refine lv_aload_n hx hb d_M_pair_83 rfl (lv_at hl 1 rfl) ?_
            refine va_get (D := D) (ci := 10) (v := .ref (mm 6)) (C := "ValueTreesModel") (T := T_M) (N := 12) hx hb ht in_M hown hK.1 hM.1 0 rfl rfl 6 (by decide) (ht _ q545) (fun _ h9 => h9) rfl d_M_pair_84 ?_
            refine lv_iload_n hx hb d_M_pair_87 rfl (lv_at hl 3 rfl) ?_
            refine z_iald hx hb hK (hM.1 6 _ rfl) j9 rfl (by omega) (by decide) d_M_pair_88 ?_
            rw [es8]
            refine lv_iadd hx hb d_M_pair_89 ?_
            rw [show ((2 + (nI (cs v8).length)) : Int32) = nI (2 + ((cs v8).length)) from nI_add 2 ((cs v8).length)]
            refine lv_aload_n hx hb d_M_pair_90 rfl (lv_at hl 1 rfl) ?_
            refine va_get (D := D) (ci := 10) (v := .ref (mm 6)) (C := "ValueTreesModel") (T := T_M) (N := 12) hx hb ht in_M hown hK.1 hM.1 0 rfl rfl 6 (by decide) (ht _ q545) (fun _ h9 => h9) rfl d_M_pair_91 ?_
            refine lv_iload_n hx hb d_M_pair_94 rfl (lv_at hl 4 rfl) ?_
            refine z_iald hx hb hK (hM.1 6 _ rfl) j16 rfl (by omega) (by decide) d_M_pair_95 ?_
            rw [es15]
            refine lv_iadd hx hb d_M_pair_96 ?_
            rw [show (((nI (2 + ((cs v8).length))) + (nI (cs v15).length)) : Int32) = nI ((2 + ((cs v8).length)) + ((cs v15).length)) from nI_add (2 + ((cs v8).length)) ((cs v15).length)]
            refine lv_sipush (v := 160) hx hb d_M_pair_97 (by decide) ?_
            refine lv_icmp_gt (tgt := 118) hx hb d_M_pair_100 (by decide) (fun c64 => ?_) (fun c64 => ?_)
            · have nc64 : 160 < ((2 + ((cs v8).length)) + ((cs v15).length)) := (nI_ltI (a := 160) (b := ((2 + ((cs v8).length)) + ((cs v15).length))) (by omega) (by omega)).mp c64
              refine lv_bipush (v := (-2)) hx hb d_M_pair_118 (by decide) ?_
              refine z_iretQ hx hb hr hlocks d_M_pair_120 hS (Nat.le_refl _) (Nat.le_refl _) ?_
              rw [pr_full (by rw [rgs_nI hj9, hV8]) (by rw [rgs_nI hj16, hV15]) (inR_nI hj) hpp (Or.inl (by omega))]
              exact ⟨rfl, _, _, _, _, _, _, _, _, _, _, _, hM, hO, hT, hR, hWk⟩
            · have nc64 : ¬ 160 < ((2 + ((cs v8).length)) + ((cs v15).length)) := fun h9 => c64 ((nI_ltI (a := 160) (b := ((2 + ((cs v8).length)) + ((cs v15).length))) (by omega) (by omega)).mpr h9)
              refine lv_iload hx hb d_M_pair_103 (lv_at hl 0 rfl) ?_
              refine lv_if_eq (tgt := 121) hx hb d_M_pair_105 (by decide) (fun c65 => absurd c65 (by decide)) (fun _ => ?_)
              refine lv_aload_n hx hb d_M_pair_108 rfl (lv_at hl 1 rfl) ?_
              refine va_get (D := D) (ci := 10) (v := .int (nI tc)) (C := "ValueTreesModel") (T := T_M) (N := 12) hx hb ht in_M hown hK.1 hM.1 0 rfl rfl 3 (by decide) (ht _ q542) (fun _ h9 => h9) rfl d_M_pair_109 ?_
              refine lv_sipush (v := 2000) hx hb d_M_pair_112 (by decide) ?_
              refine lv_icmp_ne (tgt := 121) hx hb d_M_pair_115 (by decide) (fun c66 => ?_) (fun c66 => ?_)
              · have nc66 : ¬ tc = 2000 := fun h9 => c66 ((nI_eq (a := tc) (b := 2000) (by omega) (by omega)).mpr h9)
                refine lv_aload_n hx hb d_M_pair_121 rfl (lv_at hl 1 rfl) ?_
                refine lv_iconst (v := 0) hx hb d_M_pair_122 (by decide) ?_
                refine m_put_wz hx hb ht hown hK hM hS (ht _ q547) 0 rfl d_M_pair_123 (fun H locs hM hS => ?_)
                have hM : mAt D dT mm wd lf rt tc ty F sz Wk 0 dg dc sh H := hM
                have hW : wAt Wk ([] : List Nat) := wAt_nil hWk
                have hM : mAt D dT mm wd lf rt tc ty F sz Wk (([] : List Nat).length) dg dc sh H := hM
                refine lv_aload_n hx hb d_M_pair_126 rfl (lv_at hl 1 rfl) ?_
                refine lv_bipush (v := 7) hx hb d_M_pair_127 (by decide) ?_
                refine z_callQ (va_runV (C := "ValueTreesModel") (As := [.int 7]) (rest := []) ⟨hx, hb, hml, hown, hts⟩ (c_M_lay l D dT _ mm wd lf rt tc ty F sz Wk ([] : List Nat) dg dc sh hM hW 7 (by (try simp only [List.length_append, List.length_cons, List.length_nil, size4_len]); omega)) ⟨callB_of 1 hts (gI gd_up gd_c q635) rfl rfl rfl (ht _ q10) (ht _ q632) hd_M_lay ⟨Nat.le_of_ble_eq_true rfl, Nat.le_of_ble_eq_true rfl⟩, ht _ q634, ht _ qs22⟩ (z_preV hK (va_recv hK.1 hM.1 (ci := 10) (q0 := 0) rfl rfl)) rfl rfl hl.1 rfl (lv_room (Nat.le_of_ble_eq_true rfl)) d_M_pair_129 ⟨Nat.le_refl _, Nat.le_refl _⟩) hS (fun _ h9 => h9) (fun v68 H locs hv67 hz69 hf70 hS => ?_)
                obtain ⟨rfl, Wk, hW, hWk71, hM⟩ := hv67
                refine W.eq (g2 := F0 m 132 ls []) rfl ?_
                refine lv_aload_n hx hb d_M_pair_132 rfl (lv_at hl 1 rfl) ?_
                refine lv_bipush (v := 7) hx hb d_M_pair_133 (by decide) ?_
                refine z_callQ (va_runV (C := "ValueTreesModel") (As := [.int 7]) (rest := []) ⟨hx, hb, hml, hown, hts⟩ (c_M_lay l D dT _ mm wd lf rt tc ty F sz Wk (([] : List Nat) ++ [7 % 256]) dg dc sh hM hW 7 (by (try simp only [List.length_append, List.length_cons, List.length_nil, size4_len]); omega)) ⟨callB_of 1 hts (gI gd_up gd_c q635) rfl rfl rfl (ht _ q10) (ht _ q632) hd_M_lay ⟨Nat.le_of_ble_eq_true rfl, Nat.le_of_ble_eq_true rfl⟩, ht _ q634, ht _ qs22⟩ (z_preV hK (va_recv hK.1 hM.1 (ci := 10) (q0 := 0) rfl rfl)) rfl rfl hl.1 rfl (lv_room (Nat.le_of_ble_eq_true rfl)) d_M_pair_135 ⟨Nat.le_refl _, Nat.le_refl _⟩) hS (fun _ h9 => h9) (fun v73 H locs hv72 hz74 hf75 hS => ?_)
                obtain ⟨rfl, Wk, hW, hWk76, hM⟩ := hv72
                refine W.eq (g2 := F0 m 138 ls []) rfl ?_
                refine lv_aload_n hx hb d_M_pair_138 rfl (lv_at hl 1 rfl) ?_
                refine lv_iload_n hx hb d_M_pair_139 rfl (lv_at hl 3 rfl) ?_
                refine z_callR (va_runS (As := [.int (nI j9)]) (rest := [.ref (mm 0)]) ⟨hx, hb, hml, hown, hts⟩ (c_M_base l D dT _ (nI j9)) ⟨callB_of 1 hts (gI gd_up gd_c q650) rfl rfl rfl (ht _ q10) (ht _ q648) hd_M_base ⟨Nat.le_of_ble_eq_true rfl, Nat.le_of_ble_eq_true rfl⟩, ht _ q649⟩ (z_preS hK) rfl rfl hl.1 rfl (lv_room (Nat.le_of_ble_eq_true rfl)) d_M_pair_140 ⟨Nat.zero_le _, Nat.zero_le _⟩) (fun v78 hv77 => ?_)
                subst hv77
                rw [show (160 * nI j9 : Int32) = nI (160 * j9) from pk_mul 160 j9]
                refine lv_iload_n hx hb d_M_pair_143 rfl (lv_at hl 3 rfl) ?_
                refine z_callR (va_runS (As := [.int (nI j9)]) (rest := [.int (nI (160 * j9)), .ref (mm 0)]) ⟨hx, hb, hml, hown, hts⟩ (c_M_base l D dT _ (nI j9)) ⟨callB_of 1 hts (gI gd_up gd_c q650) rfl rfl rfl (ht _ q10) (ht _ q648) hd_M_base ⟨Nat.le_of_ble_eq_true rfl, Nat.le_of_ble_eq_true rfl⟩, ht _ q649⟩ (z_preS hK) rfl rfl hl.1 rfl (lv_room (Nat.le_of_ble_eq_true rfl)) d_M_pair_144 ⟨Nat.zero_le _, Nat.zero_le _⟩) (fun v80 hv79 => ?_)
                subst hv79
                rw [show (160 * nI j9 : Int32) = nI (160 * j9) from pk_mul 160 j9]
                refine lv_aload_n hx hb d_M_pair_147 rfl (lv_at hl 1 rfl) ?_
                refine va_get (D := D) (ci := 10) (v := .ref (mm 6)) (C := "ValueTreesModel") (T := T_M) (N := 12) hx hb ht in_M hown hK.1 hM.1 0 rfl rfl 6 (by decide) (ht _ q545) (fun _ h9 => h9) rfl d_M_pair_148 ?_
                refine lv_iload_n hx hb d_M_pair_151 rfl (lv_at hl 3 rfl) ?_
                refine z_iald hx hb hK (hM.1 6 _ rfl) j9 rfl (by omega) (by decide) d_M_pair_152 ?_
                rw [es8]
                refine lv_iadd hx hb d_M_pair_153 ?_
                rw [show (((nI (160 * j9)) + (nI (cs v8).length)) : Int32) = nI ((160 * j9) + ((cs v8).length)) from nI_add (160 * j9) ((cs v8).length)]
                refine z_callQ (va_runV (C := "ValueTreesModel") (As := [.int (nI (160 * j9)), .int (nI ((160 * j9) + ((cs v8).length)))]) (rest := []) ⟨hx, hb, hml, hown, hts⟩ (c_M_putFrom l D dT _ mm wd lf rt tc ty F sz Wk (([] : List Nat) ++ [7 % 256] ++ [7 % 256]) dg dc sh hM hW hF (160 * j9) (cs v8) hf8 (by omega) (by (try simp only [List.length_append, List.length_cons, List.length_nil, size4_len]); omega)) ⟨callB_of 2 hts (gI gd_up gd_c q707) rfl rfl rfl (ht _ q10) (ht _ q704) hd_M_putFrom ⟨Nat.le_of_ble_eq_true rfl, Nat.le_of_ble_eq_true rfl⟩, ht _ q706, ht _ qs33⟩ (z_preV hK (va_recv hK.1 hM.1 (ci := 10) (q0 := 0) rfl rfl)) rfl rfl hl.1 rfl (lv_room (Nat.le_of_ble_eq_true rfl)) d_M_pair_154 ⟨Nat.le_refl _, Nat.le_refl _⟩) hS (fun _ h9 => h9) (fun v82 H locs hv81 hz83 hf84 hS => ?_)
                obtain ⟨rfl, Wk, hW, hM⟩ := hv81
                refine W.eq (g2 := F0 m 157 ls []) rfl ?_
                refine lv_aload_n hx hb d_M_pair_157 rfl (lv_at hl 1 rfl) ?_
                refine lv_iload_n hx hb d_M_pair_158 rfl (lv_at hl 4 rfl) ?_
                refine z_callR (va_runS (As := [.int (nI j16)]) (rest := [.ref (mm 0)]) ⟨hx, hb, hml, hown, hts⟩ (c_M_base l D dT _ (nI j16)) ⟨callB_of 1 hts (gI gd_up gd_c q650) rfl rfl rfl (ht _ q10) (ht _ q648) hd_M_base ⟨Nat.le_of_ble_eq_true rfl, Nat.le_of_ble_eq_true rfl⟩, ht _ q649⟩ (z_preS hK) rfl rfl hl.1 rfl (lv_room (Nat.le_of_ble_eq_true rfl)) d_M_pair_159 ⟨Nat.zero_le _, Nat.zero_le _⟩) (fun v86 hv85 => ?_)
                subst hv85
                rw [show (160 * nI j16 : Int32) = nI (160 * j16) from pk_mul 160 j16]
                refine lv_iload_n hx hb d_M_pair_162 rfl (lv_at hl 4 rfl) ?_
                refine z_callR (va_runS (As := [.int (nI j16)]) (rest := [.int (nI (160 * j16)), .ref (mm 0)]) ⟨hx, hb, hml, hown, hts⟩ (c_M_base l D dT _ (nI j16)) ⟨callB_of 1 hts (gI gd_up gd_c q650) rfl rfl rfl (ht _ q10) (ht _ q648) hd_M_base ⟨Nat.le_of_ble_eq_true rfl, Nat.le_of_ble_eq_true rfl⟩, ht _ q649⟩ (z_preS hK) rfl rfl hl.1 rfl (lv_room (Nat.le_of_ble_eq_true rfl)) d_M_pair_163 ⟨Nat.zero_le _, Nat.zero_le _⟩) (fun v88 hv87 => ?_)
                subst hv87
                rw [show (160 * nI j16 : Int32) = nI (160 * j16) from pk_mul 160 j16]
                refine lv_aload_n hx hb d_M_pair_166 rfl (lv_at hl 1 rfl) ?_
                refine va_get (D := D) (ci := 10) (v := .ref (mm 6)) (C := "ValueTreesModel") (T := T_M) (N := 12) hx hb ht in_M hown hK.1 hM.1 0 rfl rfl 6 (by decide) (ht _ q545) (fun _ h9 => h9) rfl d_M_pair_167 ?_
                refine lv_iload_n hx hb d_M_pair_170 rfl (lv_at hl 4 rfl) ?_
                refine z_iald hx hb hK (hM.1 6 _ rfl) j16 rfl (by omega) (by decide) d_M_pair_171 ?_
                rw [es15]
                refine lv_iadd hx hb d_M_pair_172 ?_
                rw [show (((nI (160 * j16)) + (nI (cs v15).length)) : Int32) = nI ((160 * j16) + ((cs v15).length)) from nI_add (160 * j16) ((cs v15).length)]
                refine z_callQ (va_runV (C := "ValueTreesModel") (As := [.int (nI (160 * j16)), .int (nI ((160 * j16) + ((cs v15).length)))]) (rest := []) ⟨hx, hb, hml, hown, hts⟩ (c_M_putFrom l D dT _ mm wd lf rt tc ty F sz Wk (([] : List Nat) ++ [7 % 256] ++ [7 % 256] ++ (cs v8)) dg dc sh hM hW hF (160 * j16) (cs v15) hf15 (by omega) (by (try simp only [List.length_append, List.length_cons, List.length_nil, size4_len]); omega)) ⟨callB_of 2 hts (gI gd_up gd_c q707) rfl rfl rfl (ht _ q10) (ht _ q704) hd_M_putFrom ⟨Nat.le_of_ble_eq_true rfl, Nat.le_of_ble_eq_true rfl⟩, ht _ q706, ht _ qs33⟩ (z_preV hK (va_recv hK.1 hM.1 (ci := 10) (q0 := 0) rfl rfl)) rfl rfl hl.1 rfl (lv_room (Nat.le_of_ble_eq_true rfl)) d_M_pair_173 ⟨Nat.le_refl _, Nat.le_refl _⟩) hS (fun _ h9 => h9) (fun v90 H locs hv89 hz91 hf92 hS => ?_)
                obtain ⟨rfl, Wk, hW, hM⟩ := hv89
                refine W.eq (g2 := F0 m 176 ls []) rfl ?_
                refine lv_aload_n hx hb d_M_pair_176 rfl (lv_at hl 1 rfl) ?_
                refine lv_iload_n hx hb d_M_pair_177 rfl (lv_at hl 2 rfl) ?_
                refine lv_aload_n hx hb d_M_pair_178 rfl (lv_at hl 1 rfl) ?_
                refine lv_bipush (v := 18) hx hb d_M_pair_179 (by decide) ?_
                refine lv_aload_n hx hb d_M_pair_181 rfl (lv_at hl 1 rfl) ?_
                refine va_get (D := D) (ci := 10) (v := .ref (mm 4)) (C := "ValueTreesModel") (T := T_M) (N := 12) hx hb ht in_M hown hK.1 hM.1 0 rfl rfl 4 (by decide) (ht _ q543) (fun _ h9 => h9) rfl d_M_pair_182 ?_
                refine lv_iload_n hx hb d_M_pair_185 rfl (lv_at hl 3 rfl) ?_
                refine z_iald hx hb hK (hM.1 4 _ rfl) j9 rfl (by omega) (by decide) d_M_pair_186 ?_
                rw [et8]
                refine lv_aload_n hx hb d_M_pair_187 rfl (lv_at hl 1 rfl) ?_
                refine va_get (D := D) (ci := 10) (v := .ref (mm 4)) (C := "ValueTreesModel") (T := T_M) (N := 12) hx hb ht in_M hown hK.1 hM.1 0 rfl rfl 4 (by decide) (ht _ q543) (fun _ h9 => h9) rfl d_M_pair_188 ?_
                refine lv_iload_n hx hb d_M_pair_191 rfl (lv_at hl 4 rfl) ?_
                refine z_iald hx hb hK (hM.1 4 _ rfl) j16 rfl (by omega) (by decide) d_M_pair_192 ?_
                rw [et15]
                refine z_callQ (va_runV (C := "ValueTreesModel") (As := [.int 18, .int (nI (vty v8)), .int (nI (vty v15))]) (rest := [.int (nI j), .ref (mm 0)]) ⟨hx, hb, hml, hown, hts⟩ (c_M_typeFor l D dT _ mm wd lf rt tc ty F sz Wk ((([] : List Nat) ++ [7 % 256] ++ [7 % 256] ++ (cs v8) ++ (cs v15)).length) dg dc sh hM tb hO hT 18 (vty v8) (some (vty v15)) ⟨by decide, by decide, ht8, ⟨(fun h9 => by cases h9), fun h9 => absurd h9 (by decide)⟩, (fun k hk => by cases hk; exact ht15), hpp, (fun h9 => absurd h9 (by decide))⟩ (fun _ => by omega)) ⟨callB_of 3 hts (gI gd_up gd_c q600) rfl rfl rfl (ht _ q10) (ht _ q597) hd_M_typeFor ⟨Nat.le_of_ble_eq_true rfl, Nat.le_of_ble_eq_true rfl⟩, ht _ q599, ht _ qs17⟩ (z_preV hK (va_recv hK.1 hM.1 (ci := 10) (q0 := 0) rfl rfl)) rfl rfl hl.1 rfl (lv_room (Nat.le_of_ble_eq_true rfl)) d_M_pair_193 ⟨Nat.le_refl _, Nat.le_refl _⟩) hS (fun _ h9 => h9) (fun v94 H locs hv93 hz95 hf96 hS => ?_)
                obtain ⟨t9, tb2, tc2, wd2, lf2, rt2, hnum, rfl, hlt9, hO2, hT2, hext, htc2, hisT, hM⟩ := hv93
                refine W.eq (g2 := F0 m 196 ls [.int (nI t9), .int (nI j), .ref (mm 0)]) rfl ?_
                have hxw : wty tb2 (.pow (.add v8 v15) t9) 0 t9 := ⟨rfl, rfl, Or.inl ⟨rfl, hisT.1⟩, by rw [show lt_ tb2 t9 = vty v8 by unfold lt_; rw [hisT.2.1]; rfl]; exact wty_ext hO hext _ 0 _ ht8 hw8, by rw [show rt_ tb2 t9 = vty v15 by unfold rt_; rw [hisT.2.2]; rfl]; exact wty_ext hO hext _ 0 _ ht15 hw15⟩
                have ebs : ([] : List Nat) ++ [7 % 256] ++ [7 % 256] ++ (cs v8) ++ (cs v15) = cs (.pow (.add v8 v15) t9) := (by simp [cs, hdr])
                rw [ebs] at hW hM
                refine z_callQ (va_runV (C := "ValueTreesModel") (As := [.int (nI j), .int (nI t9)]) (rest := []) ⟨hx, hb, hml, hown, hts⟩ (c_M_keep l D dT _ mm wd2 lf2 rt2 tc2 ty F sz Wk (cs (.pow (.add v8 v15) t9)) dg dc sh hM hW j t9 hj (by rw [← ebs]; simp only [List.length_append, List.length_cons, List.length_nil, size4_len]; omega)) ⟨callB_of 2 hts (gI gd_up gd_c q647) rfl rfl rfl (ht _ q10) (ht _ q644) hd_M_keep ⟨Nat.le_of_ble_eq_true rfl, Nat.le_of_ble_eq_true rfl⟩, ht _ q646, ht _ qs25⟩ (z_preV hK (va_recv hK.1 hM.1 (ci := 10) (q0 := 0) rfl rfl)) rfl rfl hl.1 rfl (lv_room (Nat.le_of_ble_eq_true rfl)) d_M_pair_196 ⟨Nat.le_refl _, Nat.le_refl _⟩) hS (fun _ h9 => h9) (fun v98 H locs hv97 hz99 hf100 hS => ?_)
                rcases hv97 with ⟨hk1, rfl, hM⟩ | ⟨hk1, rfl, hM⟩
                · refine W.eq (g2 := F0 m 199 ls [.int (-2)]) rfl ?_
                  refine z_iretQ hx hb hr hlocks d_M_pair_199 hS (Nat.le_refl _) (Nat.le_refl _) ?_
                  have hlx : (cs (.pow (.add v8 v15) t9)).length = 2 + (cs v8).length + (cs v15).length := l_add
                  exact absurd hk1 (by omega)
                · refine W.eq (g2 := F0 m 199 ls [.int (nI (cs (.pow (.add v8 v15) t9)).length)]) rfl ?_
                  refine z_iretQ hx hb hr hlocks d_M_pair_199 hS (Nat.le_refl _) (Nat.le_refl _) ?_
                  have hlx : (cs (.pow (.add v8 v15) t9)).length = 2 + (cs v8).length + (cs v15).length := l_add
                  obtain ⟨hy1, hy2⟩ := kO_done (x := (.pow (.add v8 v15) t9)) ⟨_, _, _, _, _, hW.1, Or.inr ⟨hk1, rfl, hM⟩⟩ hO2 hT2 (mR_ext hO hext htc2 hR) hj hlt9 hxw
                  have ek : kp RV (nI j) (some (.pow (.add v8 v15) t9)) = (nI (cs (.pow (.add v8 v15) t9)).length, updR RV j (some (.pow (.add v8 v15) t9))) := by unfold kp; dsimp only; rw [if_pos (inR_nI hj), if_neg (by omega), nI_clamp (by omega)]
                  rw [ek] at hy1 hy2
                  rw [pr_some (by rw [rgs_nI hj9, hV8]) (by rw [rgs_nI hj16, hV15]) (inR_nI hj) hpp (by omega) hnum, nI_clamp (show j < 2 ^ 31 by omega), ← hlx]
                  exact ⟨hy1, hy2⟩
              · have nc66 : tc = 2000 := (nI_eq (a := tc) (b := 2000) (by omega) (by omega)).mp c66
                refine lv_bipush (v := (-2)) hx hb d_M_pair_118 (by decide) ?_
                refine z_iretQ hx hb hr hlocks d_M_pair_120 hS (Nat.le_refl _) (Nat.le_refl _) ?_
                rw [pr_full (by rw [rgs_nI hj9, hV8]) (by rw [rgs_nI hj16, hV15]) (inR_nI hj) hpp (Or.inr (numT_full hfd (by omega)))]
                exact ⟨rfl, _, _, _, _, _, _, _, _, _, _, _, hM, hO, hT, hR, hWk⟩
        · have nc23 : ¬ ((1 + (tP (tb (vty v8)))) + (tP (tb (vty v15)))) ≤ 200 := fun h9 => c23 ((nI_leI (a := ((1 + (tP (tb (vty v8)))) + (tP (tb (vty v15))))) (b := 200) (by omega) (by omega)).mpr h9)
          refine lv_iconst (v := (-1)) hx hb d_M_pair_52 (by decide) ?_
          refine z_iretQ hx hb hr hlocks d_M_pair_53 hS (Nat.le_refl _) (Nat.le_refl _) ?_
          rw [pr_no (Or.inr (Or.inr (Or.inr ⟨v8, v15, by rw [rgs_nI hj9, hV8], by rw [rgs_nI hj16, hV15], nc23⟩)))]
          exact ⟨rfl, _, _, _, _, _, _, _, _, _, _, _, hM, hO, hT, hR, hWk⟩
  · rw [if_neg hq3] at hv1
    subst hv1
    refine lv_if_eq (tgt := 52) hx hb d_M_pair_4 (by decide) (fun _ => ?_) (fun c101 => absurd c101 (by decide))
    refine lv_iconst (v := (-1)) hx hb d_M_pair_52 (by decide) ?_
    refine z_iretQ hx hb hr hlocks d_M_pair_53 hS (Nat.le_refl _) (Nat.le_refl _) ?_
    rw [pr_no (Or.inr (Or.inr (Or.inl hq3)))]
    exact ⟨rfl, _, _, _, _, _, _, _, _, _, _, _, hM, hO, hT, hR, hWk⟩
