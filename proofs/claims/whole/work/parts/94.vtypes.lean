abbrev b_V_wantedType : ByteArray := prog_1_method_37_code
abbrev y_V_wantedType : MethodName := ⟨"ValueTrees", "wantedType", "(III)LValueTrees$Type;"⟩
abbrev w_V_wantedType : List Cond := .code y_V_wantedType b_V_wantedType 10 (Option.some (.object "ValueTrees$Type")) :: gt
theorem hd_V_wantedType : (y_V_wantedType).cls ≠ "java/lang/invoke/MethodHandle" ∧ (y_V_wantedType).cls ≠ "java/lang/invoke/VarHandle" ∧ (parseMethodDescriptor (y_V_wantedType).desc).map (fun d => d.parameters.length) = some 3 := by decide +kernel
theorem d_V_wantedType_0 : decode b_V_wantedType 0 = .ok (.iload_n 1, 1) := by decide +kernel
theorem d_V_wantedType_1 : decode b_V_wantedType 1 = .ok (.bipush 10, 2) := by decide +kernel
theorem d_V_wantedType_3 : decode b_V_wantedType 3 = .ok (.if_icmp .lt 9, 3) := by decide +kernel
theorem d_V_wantedType_6 : decode b_V_wantedType 6 = .ok (.iload_n 1, 1) := by decide +kernel
theorem d_V_wantedType_7 : decode b_V_wantedType 7 = .ok (.bipush 18, 2) := by decide +kernel
theorem d_V_wantedType_9 : decode b_V_wantedType 9 = .ok (.if_icmp .le 5, 3) := by decide +kernel
theorem d_V_wantedType_12 : decode b_V_wantedType 12 = .ok (.aconst_null, 1) := by decide +kernel
theorem d_V_wantedType_13 : decode b_V_wantedType 13 = .ok (.areturn, 1) := by decide +kernel
theorem d_V_wantedType_14 : decode b_V_wantedType 14 = .ok (.iload_n 1, 1) := by decide +kernel
theorem d_V_wantedType_15 : decode b_V_wantedType 15 = .ok (.bipush 14, 2) := by decide +kernel
theorem d_V_wantedType_17 : decode b_V_wantedType 17 = .ok (.if_icmp .lt 7, 3) := by decide +kernel
theorem d_V_wantedType_20 : decode b_V_wantedType 20 = .ok (.iconst 1, 1) := by decide +kernel
theorem d_V_wantedType_21 : decode b_V_wantedType 21 = .ok (.goto 4, 3) := by decide +kernel
theorem d_V_wantedType_24 : decode b_V_wantedType 24 = .ok (.iconst 0, 1) := by decide +kernel
theorem d_V_wantedType_25 : decode b_V_wantedType 25 = .ok (.istore 4, 2) := by decide +kernel
theorem d_V_wantedType_27 : decode b_V_wantedType 27 = .ok (.aload_n 0, 1) := by decide +kernel
theorem d_V_wantedType_28 : decode b_V_wantedType 28 = .ok (.iload_n 2, 1) := by decide +kernel
theorem d_V_wantedType_29 : decode b_V_wantedType 29 = .ok (.invokevirtual 43, 3) := by decide +kernel
theorem d_V_wantedType_32 : decode b_V_wantedType 32 = .ok (.astore 5, 2) := by decide +kernel
theorem d_V_wantedType_34 : decode b_V_wantedType 34 = .ok (.iload 4, 2) := by decide +kernel
theorem d_V_wantedType_36 : decode b_V_wantedType 36 = .ok (.ifCond .eq 11, 3) := by decide +kernel
theorem d_V_wantedType_39 : decode b_V_wantedType 39 = .ok (.aload_n 0, 1) := by decide +kernel
theorem d_V_wantedType_40 : decode b_V_wantedType 40 = .ok (.iload_n 3, 1) := by decide +kernel
theorem d_V_wantedType_41 : decode b_V_wantedType 41 = .ok (.invokevirtual 43, 3) := by decide +kernel
theorem d_V_wantedType_44 : decode b_V_wantedType 44 = .ok (.goto 5, 3) := by decide +kernel
theorem d_V_wantedType_47 : decode b_V_wantedType 47 = .ok (.aload 5, 2) := by decide +kernel
theorem d_V_wantedType_49 : decode b_V_wantedType 49 = .ok (.astore 6, 2) := by decide +kernel
theorem d_V_wantedType_51 : decode b_V_wantedType 51 = .ok (.aload 5, 2) := by decide +kernel
theorem d_V_wantedType_53 : decode b_V_wantedType 53 = .ok (.ifnull 8, 3) := by decide +kernel
theorem d_V_wantedType_56 : decode b_V_wantedType 56 = .ok (.aload 6, 2) := by decide +kernel
theorem d_V_wantedType_58 : decode b_V_wantedType 58 = .ok (.ifnonnull 5, 3) := by decide +kernel
theorem d_V_wantedType_61 : decode b_V_wantedType 61 = .ok (.aconst_null, 1) := by decide +kernel
theorem d_V_wantedType_62 : decode b_V_wantedType 62 = .ok (.areturn, 1) := by decide +kernel
theorem d_V_wantedType_63 : decode b_V_wantedType 63 = .ok (.iload_n 1, 1) := by decide +kernel
theorem d_V_wantedType_64 : decode b_V_wantedType 64 = .ok (.bipush 12, 2) := by decide +kernel
theorem d_V_wantedType_66 : decode b_V_wantedType 66 = .ok (.if_icmp .eq 15, 3) := by decide +kernel
theorem d_V_wantedType_69 : decode b_V_wantedType 69 = .ok (.iload_n 1, 1) := by decide +kernel
theorem d_V_wantedType_70 : decode b_V_wantedType 70 = .ok (.bipush 15, 2) := by decide +kernel
theorem d_V_wantedType_72 : decode b_V_wantedType 72 = .ok (.if_icmp .eq 9, 3) := by decide +kernel
theorem d_V_wantedType_75 : decode b_V_wantedType 75 = .ok (.iload_n 1, 1) := by decide +kernel
theorem d_V_wantedType_76 : decode b_V_wantedType 76 = .ok (.bipush 16, 2) := by decide +kernel
theorem d_V_wantedType_78 : decode b_V_wantedType 78 = .ok (.if_icmp .ne 7, 3) := by decide +kernel
theorem d_V_wantedType_81 : decode b_V_wantedType 81 = .ok (.iconst 1, 1) := by decide +kernel
theorem d_V_wantedType_82 : decode b_V_wantedType 82 = .ok (.goto 4, 3) := by decide +kernel
theorem d_V_wantedType_85 : decode b_V_wantedType 85 = .ok (.iconst 0, 1) := by decide +kernel
theorem d_V_wantedType_86 : decode b_V_wantedType 86 = .ok (.istore 7, 2) := by decide +kernel
theorem d_V_wantedType_88 : decode b_V_wantedType 88 = .ok (.iload 7, 2) := by decide +kernel
theorem d_V_wantedType_90 : decode b_V_wantedType 90 = .ok (.ifCond .eq 14, 3) := by decide +kernel
theorem d_V_wantedType_93 : decode b_V_wantedType 93 = .ok (.aload 5, 2) := by decide +kernel
theorem d_V_wantedType_95 : decode b_V_wantedType 95 = .ok (.iconst 1, 1) := by decide +kernel
theorem d_V_wantedType_96 : decode b_V_wantedType 96 = .ok (.invokevirtual 219, 3) := by decide +kernel
theorem d_V_wantedType_99 : decode b_V_wantedType 99 = .ok (.ifCond .ne 5, 3) := by decide +kernel
theorem d_V_wantedType_102 : decode b_V_wantedType 102 = .ok (.aconst_null, 1) := by decide +kernel
theorem d_V_wantedType_103 : decode b_V_wantedType 103 = .ok (.areturn, 1) := by decide +kernel
theorem d_V_wantedType_104 : decode b_V_wantedType 104 = .ok (.iconst 1, 1) := by decide +kernel
theorem d_V_wantedType_105 : decode b_V_wantedType 105 = .ok (.aload 5, 2) := by decide +kernel
theorem d_V_wantedType_107 : decode b_V_wantedType 107 = .ok (.getfield 234, 3) := by decide +kernel
theorem d_V_wantedType_110 : decode b_V_wantedType 110 = .ok (.iadd, 1) := by decide +kernel
theorem d_V_wantedType_111 : decode b_V_wantedType 111 = .ok (.iload 4, 2) := by decide +kernel
theorem d_V_wantedType_113 : decode b_V_wantedType 113 = .ok (.ifCond .eq 11, 3) := by decide +kernel
theorem d_V_wantedType_116 : decode b_V_wantedType 116 = .ok (.aload 6, 2) := by decide +kernel
theorem d_V_wantedType_118 : decode b_V_wantedType 118 = .ok (.getfield 234, 3) := by decide +kernel
theorem d_V_wantedType_121 : decode b_V_wantedType 121 = .ok (.goto 4, 3) := by decide +kernel
theorem d_V_wantedType_124 : decode b_V_wantedType 124 = .ok (.iconst 0, 1) := by decide +kernel
theorem d_V_wantedType_125 : decode b_V_wantedType 125 = .ok (.iadd, 1) := by decide +kernel
theorem d_V_wantedType_126 : decode b_V_wantedType 126 = .ok (.istore 8, 2) := by decide +kernel
theorem d_V_wantedType_128 : decode b_V_wantedType 128 = .ok (.iload 8, 2) := by decide +kernel
theorem d_V_wantedType_130 : decode b_V_wantedType 130 = .ok (.sipush 200, 3) := by decide +kernel
theorem d_V_wantedType_133 : decode b_V_wantedType 133 = .ok (.if_icmp .le 5, 3) := by decide +kernel
theorem d_V_wantedType_136 : decode b_V_wantedType 136 = .ok (.aconst_null, 1) := by decide +kernel
theorem d_V_wantedType_137 : decode b_V_wantedType 137 = .ok (.areturn, 1) := by decide +kernel
theorem d_V_wantedType_138 : decode b_V_wantedType 138 = .ok (.iload_n 1, 1) := by decide +kernel
theorem d_V_wantedType_139 : decode b_V_wantedType 139 = .ok (.aload 5, 2) := by decide +kernel
theorem d_V_wantedType_141 : decode b_V_wantedType 141 = .ok (.getfield 57, 3) := by decide +kernel
theorem d_V_wantedType_144 : decode b_V_wantedType 144 = .ok (.aload 6, 2) := by decide +kernel
theorem d_V_wantedType_146 : decode b_V_wantedType 146 = .ok (.getfield 57, 3) := by decide +kernel
theorem d_V_wantedType_149 : decode b_V_wantedType 149 = .ok (.iand, 1) := by decide +kernel
theorem d_V_wantedType_150 : decode b_V_wantedType 150 = .ok (.aload 6, 2) := by decide +kernel
theorem d_V_wantedType_152 : decode b_V_wantedType 152 = .ok (.getfield 57, 3) := by decide +kernel
theorem d_V_wantedType_155 : decode b_V_wantedType 155 = .ok (.invokestatic 18, 3) := by decide +kernel
theorem d_V_wantedType_158 : decode b_V_wantedType 158 = .ok (.istore 9, 2) := by decide +kernel
theorem d_V_wantedType_160 : decode b_V_wantedType 160 = .ok (.new 16, 3) := by decide +kernel
theorem d_V_wantedType_163 : decode b_V_wantedType 163 = .ok (.dup, 1) := by decide +kernel
theorem d_V_wantedType_164 : decode b_V_wantedType 164 = .ok (.iload_n 1, 1) := by decide +kernel
theorem d_V_wantedType_165 : decode b_V_wantedType 165 = .ok (.iload_n 2, 1) := by decide +kernel
theorem d_V_wantedType_166 : decode b_V_wantedType 166 = .ok (.iload 4, 2) := by decide +kernel
theorem d_V_wantedType_168 : decode b_V_wantedType 168 = .ok (.ifCond .eq 7, 3) := by decide +kernel
theorem d_V_wantedType_171 : decode b_V_wantedType 171 = .ok (.iload_n 3, 1) := by decide +kernel
theorem d_V_wantedType_172 : decode b_V_wantedType 172 = .ok (.goto 4, 3) := by decide +kernel
theorem d_V_wantedType_175 : decode b_V_wantedType 175 = .ok (.iconst (-1), 1) := by decide +kernel
theorem d_V_wantedType_176 : decode b_V_wantedType 176 = .ok (.iload 8, 2) := by decide +kernel
theorem d_V_wantedType_178 : decode b_V_wantedType 178 = .ok (.iload 9, 2) := by decide +kernel
theorem d_V_wantedType_180 : decode b_V_wantedType 180 = .ok (.invokespecial 22, 3) := by decide +kernel
theorem d_V_wantedType_183 : decode b_V_wantedType 183 = .ok (.areturn, 1) := by decide +kernel
set_option maxHeartbeats 4000000 in
set_option maxRecDepth 100000 in
theorem c_V_wantedType (l : Launch) (D : va_G) (dT : Nat → ClassId) (H : Heap) (Bq : Nat → Prop) (vv rg li ed : Nat) (tb : Nat → TR) (tc : Nat) (RV : Nat → Option VT) (hC : cI D dT Bq vv rg li ed tb tc RV H) (hV : vOK tb tc RV) (wd9 a b : Int32) : Met l y_V_wantedType w_V_wantedType ({ frames := 4, cells := 1, slots := 5, locals := 85 }) (z_P D dT [.ref vv, .int wd9, .int a, .int b] H) (z_Q (fun q => H.size ≤ q) (fun v H1 => (v = some .null ∧ o_row tb tc wd9 a b = none) ∨ ∃ q wn k ob, v = some (.ref q) ∧ o_row tb tc wd9 a b = some (mkR tb wn k ob) ∧ rowOK tb tc wn k ob ∧ H.size ≤ q ∧ va_at D cls (q, .inr (1, tyF (mkR tb wn k ob))) H1)) 1 5 (fun q => H.size ≤ q) := by
  obtain ⟨⟨hBs, hBr, hBl, hBe, hBv, hrl, hre, hle⟩, hvv, hCR, hCT⟩ := id hC
  have hO := hV.1
  have htc := hO.1
  have htc10 := hO.2.1
  refine Met.ofW (cc := b_V_wantedType) (maxL := 10) (ret := (Option.some (.object "ValueTrees$Type"))) (by decide) rfl ?_
  intro p e s m args below meth c s₁ B hml hv
  obtain ⟨rfl, rfl, hK⟩ := hv
  have hx := B.exec
  have hb := B.bytes
  have hr := B.returns
  have hts := atoms_spec (ws := w_V_wantedType) B.pre
  have ht : ∀ w9 ∈ gt, w9.before [.ref vv, .int wd9, .int a, .int b].toArray s = true := fun w9 h => hts w9 (List.mem_cons_of_mem _ h)
  have hown : s.vm.findClass "ValueTrees" = some m.cls := findClass_of_methodNamed B.named
  have hlocks := B.notSynchronized
  have hS : va_S (fun q => s.heap.size ≤ q) s.heap s.heap [] := va_S.rf
  have hl := lv_entry ([.ref vv, .int wd9, .int a, .int b]) (n := 10) (Nat.le_of_ble_eq_true rfl)
  rw [lg_entry_eq]
  generalize (lg_sl ([.ref vv, .int wd9, .int a, .int b]) ++ List.replicate (10 - (lg_sl ([.ref vv, .int wd9, .int a, .int b])).length) Slot.unset).toArray = ls at hl ⊢
  have hl : lv_has ls 10 [(0, .ref vv), (1, .int wd9), (2, .int a), (3, .int b)] := hl
  have hN : nU s.heap s.heap := nU.rf
  refine lv_iload_n hx hb d_V_wantedType_0 rfl (lv_at hl 1 rfl) ?_
  refine lv_bipush (v := 10) hx hb d_V_wantedType_1 (by decide) ?_
  refine lv_icmp_lt (tgt := 12) hx hb d_V_wantedType_3 (by decide) (fun c1 => ?_) (fun c1 => ?_)
  · refine lv_null hx hb d_V_wantedType_12 ?_
    exact z_aretQ hx hb hr hlocks d_V_wantedType_13 (Or.inl ⟨_, rfl⟩) (Or.inl rfl) hS (Nat.le_of_ble_eq_true rfl) (Nat.le_of_ble_eq_true rfl) (Or.inl ⟨rfl, row_w (fun h9 => absurd c1 (Int32.not_lt.mpr h9.1))⟩)
  · refine lv_iload_n hx hb d_V_wantedType_6 rfl (lv_at hl 1 rfl) ?_
    refine lv_bipush (v := 18) hx hb d_V_wantedType_7 (by decide) ?_
    refine lv_icmp_le (tgt := 14) hx hb d_V_wantedType_9 (by decide) (fun c2 => ?_) (fun c2 => ?_)
    · obtain ⟨wn, hwn, rfl⟩ := nI_of (x := wd9) (fun h9 => c1 (Int32.lt_trans h9 (by decide)))
      have h10 : 10 ≤ wn := (nI_leI (a := 10) (b := wn) (by decide) hwn).mp (Int32.not_lt.mp c1)
      have h18 : wn ≤ 18 := (nI_leI (a := wn) (b := 18) hwn (by decide)).mp c2
      refine lv_iload_n hx hb d_V_wantedType_14 rfl (lv_at hl 1 rfl) ?_
      refine lv_bipush (v := 14) hx hb d_V_wantedType_15 (by decide) ?_
      refine lv_icmp_lt (tgt := 24) hx hb d_V_wantedType_17 (by decide) (fun c3 => ?_) (fun c3 => ?_)
      · have nc3 : wn < 14 := (nI_ltI (a := wn) (b := 14) (by omega) (by omega)).mp c3
        refine lv_iconst (v := 0) hx hb d_V_wantedType_24 (by decide) ?_
        refine lv_istore (lv' := [(4, .int 0), (0, .ref vv), (1, .int (nI wn)), (2, .int a), (3, .int b)]) hx hb d_V_wantedType_25 hl (by decide) rfl (fun ls hl => ?_)
        refine lv_aload_n hx hb d_V_wantedType_27 rfl (lv_at hl 1 rfl) ?_
        refine lv_iload_n hx hb d_V_wantedType_28 rfl (lv_at hl 3 rfl) ?_
        refine z_callR (va_runV (C := "ValueTrees") (As := [.int a]) (rest := []) ⟨hx, hb, hml, hown, hts⟩ (c_V_typeNumbered l D dT _ Bq vv rg li ed tb tc RV (hC.up hN) hV a) ⟨callB_of 1 hts (gI gd_up gd_c q163) rfl rfl rfl (ht _ q1) (ht _ q160) hd_V_typeNumbered ⟨Nat.le_of_ble_eq_true rfl, Nat.le_of_ble_eq_true rfl⟩, ht _ q162, ht _ qs4⟩ (z_preV hK (va_recv hK.1 (z_1 (hvv.grew hN.2)) (ci := 0) (q0 := 0) rfl rfl)) rfl rfl hl.1 rfl (lv_room (Nat.le_of_ble_eq_true rfl)) d_V_wantedType_29 ⟨Nat.zero_le _, Nat.zero_le _⟩) (fun v5 hv4 => ?_)
        rcases hv4 with ⟨rfl, hq9⟩ | ⟨a6, k7, rfl, hq9, hk7, hnba6, oa6⟩
        · refine lv_astoreN (lv' := [(5, .null), (4, .int 0), (0, .ref vv), (1, .int (nI wn)), (2, .int a), (3, .int b)]) hx hb d_V_wantedType_32 hl (by decide) rfl (fun ls hl => ?_)
          refine lv_iload hx hb d_V_wantedType_34 (lv_at hl 1 rfl) ?_
          refine lv_if_eq (tgt := 47) hx hb d_V_wantedType_36 (by decide) (fun _ => ?_) (fun c10 => absurd c10 (by decide))
          refine lv_aloadN hx hb d_V_wantedType_47 (lv_at hl 0 rfl) ?_
          refine lv_astoreN (lv' := [(6, .null), (5, .null), (4, .int 0), (0, .ref vv), (1, .int (nI wn)), (2, .int a), (3, .int b)]) hx hb d_V_wantedType_49 hl (by decide) rfl (fun ls hl => ?_)
          refine lv_aloadN hx hb d_V_wantedType_51 (lv_at hl 1 rfl) ?_
          refine lv_ifnullN (tgt := 61) hx hb d_V_wantedType_53 (by decide) ?_
          refine lv_null hx hb d_V_wantedType_61 ?_
          exact z_aretQ hx hb hr hlocks d_V_wantedType_62 (Or.inl ⟨_, rfl⟩) (Or.inl rfl) hS (Nat.le_of_ble_eq_true rfl) (Nat.le_of_ble_eq_true rfl) (Or.inl ⟨rfl, row_a hq9⟩)
        · refine lv_astore (lv' := [(5, .ref a6), (4, .int 0), (0, .ref vv), (1, .int (nI wn)), (2, .int a), (3, .int b)]) hx hb d_V_wantedType_32 hl (by decide) rfl (fun ls hl => ?_)
          refine lv_iload hx hb d_V_wantedType_34 (lv_at hl 1 rfl) ?_
          refine lv_if_eq (tgt := 47) hx hb d_V_wantedType_36 (by decide) (fun _ => ?_) (fun c11 => absurd c11 (by decide))
          refine lv_aload hx hb d_V_wantedType_47 (lv_at hl 0 rfl) ?_
          refine lv_astore (lv' := [(6, .ref a6), (5, .ref a6), (4, .int 0), (0, .ref vv), (1, .int (nI wn)), (2, .int a), (3, .int b)]) hx hb d_V_wantedType_49 hl (by decide) rfl (fun ls hl => ?_)
          refine lv_aload hx hb d_V_wantedType_51 (lv_at hl 1 rfl) ?_
          refine lv_ifnull hx hb d_V_wantedType_53 ?_
          refine lv_aload hx hb d_V_wantedType_56 (lv_at hl 0 rfl) ?_
          refine lv_ifnonnull (tgt := 63) hx hb d_V_wantedType_58 (by decide) ?_
          obtain ⟨ea9, -⟩ := tN_some hq9 htc
          subst ea9
          have hpk7 := (hO.2.2 _ hk7).2.2.2.2.2.2.2.2.1
          refine lv_iload_n hx hb d_V_wantedType_63 rfl (lv_at hl 4 rfl) ?_
          refine lv_bipush (v := 12) hx hb d_V_wantedType_64 (by decide) ?_
          refine lv_icmp_eq (tgt := 81) hx hb d_V_wantedType_66 (by decide) (fun c12 => ?_) (fun c12 => ?_)
          · have nc12 : wn = 12 := (nI_eq (a := wn) (b := 12) (by omega) (by omega)).mp c12
            refine lv_iconst (v := 1) hx hb d_V_wantedType_81 (by decide) ?_
            refine lv_goto (tgt := 86) hx hb d_V_wantedType_82 (by decide) ?_
            refine lv_istore (lv' := [(7, .int 1), (6, .ref a6), (5, .ref a6), (4, .int 0), (0, .ref vv), (1, .int (nI wn)), (2, .int (nI k7)), (3, .int b)]) hx hb d_V_wantedType_86 hl (by decide) rfl (fun ls hl => ?_)
            refine lv_iload hx hb d_V_wantedType_88 (lv_at hl 0 rfl) ?_
            refine lv_if_eq (tgt := 104) hx hb d_V_wantedType_90 (by decide) (fun c13 => absurd c13 (by decide)) (fun _ => ?_)
            refine lv_aload hx hb d_V_wantedType_93 (lv_at hl 2 rfl) ?_
            refine lv_iconst (v := 1) hx hb d_V_wantedType_95 (by decide) ?_
            refine z_callR (va_runV (C := "ValueTrees$Type") (As := [.int 1]) (rest := []) ⟨hx, hb, hml, hown, hts⟩ (c_Type_isMarked l D dT _ a6 (tb k7) (oa6.grew hN.2)) ⟨callB_of 1 hts (gI gd_up gd_c q185) rfl rfl rfl (ht _ q5) (ht _ q182) hd_Type_isMarked ⟨Nat.le_of_ble_eq_true rfl, Nat.le_of_ble_eq_true rfl⟩, ht _ q183, ht _ q184⟩ (z_preV hK (va_recv hK.1 (z_1 (oa6.grew hN.2)) (ci := 1) (q0 := 0) rfl rfl)) rfl rfl hl.1 rfl (lv_room (Nat.le_of_ble_eq_true rfl)) d_V_wantedType_96 ⟨Nat.zero_le _, Nat.zero_le _⟩) (fun v15 hv14 => ?_)
            have hv14 : v15 = .int (if tC (tb k7) = true then 1 else 0) := hv14
            rcases Classical.em (tC (tb k7) = true) with hmk | hmk
            · rw [if_pos hmk] at hv14
              subst hv14
              refine lv_if_ne (tgt := 104) hx hb d_V_wantedType_99 (by decide) (fun _ => ?_) (fun c16 => absurd c16 (by decide))
              refine lv_iconst (v := 1) hx hb d_V_wantedType_104 (by decide) ?_
              refine lv_aload hx hb d_V_wantedType_105 (lv_at hl 2 rfl) ?_
              refine va_get (D := D) (ci := 1) (v := .int (nI (tP (tb k7)))) (C := "ValueTrees$Type") (T := T_Type) (N := 5) hx hb ht in_Type hown hK.1 (z_1 (oa6.grew hN.2)) 0 rfl rfl 3 (by decide) (ht _ q71) (fun _ h9 => h9) rfl d_V_wantedType_107 ?_
              refine lv_iadd hx hb d_V_wantedType_110 ?_
              rw [show ((1 + (nI (tP (tb k7)))) : Int32) = nI (1 + (tP (tb k7))) from nI_add 1 (tP (tb k7))]
              refine lv_iload hx hb d_V_wantedType_111 (lv_at hl 3 rfl) ?_
              refine lv_if_eq (tgt := 124) hx hb d_V_wantedType_113 (by decide) (fun _ => ?_) (fun c17 => absurd c17 (by decide))
              refine lv_iconst (v := 0) hx hb d_V_wantedType_124 (by decide) ?_
              refine lv_iadd hx hb d_V_wantedType_125 ?_
              rw [show (((nI (1 + (tP (tb k7)))) + 0) : Int32) = nI ((1 + (tP (tb k7))) + 0) from nI_add (1 + (tP (tb k7))) 0]
              refine lv_istore (lv' := [(8, .int (nI ((1 + (tP (tb k7))) + 0))), (7, .int 1), (6, .ref a6), (5, .ref a6), (4, .int 0), (0, .ref vv), (1, .int (nI wn)), (2, .int (nI k7)), (3, .int b)]) hx hb d_V_wantedType_126 hl (by decide) rfl (fun ls hl => ?_)
              refine lv_iload hx hb d_V_wantedType_128 (lv_at hl 0 rfl) ?_
              refine lv_sipush (v := 200) hx hb d_V_wantedType_130 (by decide) ?_
              refine lv_icmp_le (tgt := 138) hx hb d_V_wantedType_133 (by decide) (fun c18 => ?_) (fun c18 => ?_)
              · have nc18 : ((1 + (tP (tb k7))) + 0) ≤ 200 := (nI_leI (a := ((1 + (tP (tb k7))) + 0)) (b := 200) (by omega) (by omega)).mp c18
                refine lv_iload_n hx hb d_V_wantedType_138 rfl (lv_at hl 6 rfl) ?_
                refine lv_aload hx hb d_V_wantedType_139 (lv_at hl 3 rfl) ?_
                refine va_get (D := D) (ci := 1) (v := .int (nI (tK (tb k7)))) (C := "ValueTrees$Type") (T := T_Type) (N := 5) hx hb ht in_Type hown hK.1 (z_1 (oa6.grew hN.2)) 0 rfl rfl 4 (by decide) (ht _ q73) (fun _ h9 => h9) rfl d_V_wantedType_141 ?_
                refine lv_aload hx hb d_V_wantedType_144 (lv_at hl 2 rfl) ?_
                refine va_get (D := D) (ci := 1) (v := .int (nI (tK (tb k7)))) (C := "ValueTrees$Type") (T := T_Type) (N := 5) hx hb ht in_Type hown hK.1 (z_1 (oa6.grew hN.2)) 0 rfl rfl 4 (by decide) (ht _ q73) (fun _ h9 => h9) rfl d_V_wantedType_146 ?_
                refine lv_iand hx hb d_V_wantedType_149 ?_
                rw [show (((nI (tK (tb k7))) &&& (nI (tK (tb k7)))) : Int32) = nI (tK (tb k7) &&& tK (tb k7)) from nI_and8 (tK_lt _) (tK_lt _)]
                refine lv_aload hx hb d_V_wantedType_150 (lv_at hl 2 rfl) ?_
                refine va_get (D := D) (ci := 1) (v := .int (nI (tK (tb k7)))) (C := "ValueTrees$Type") (T := T_Type) (N := 5) hx hb ht in_Type hown hK.1 (z_1 (oa6.grew hN.2)) 0 rfl rfl 4 (by decide) (ht _ q73) (fun _ h9 => h9) rfl d_V_wantedType_152 ?_
                refine z_callR (va_runS (As := [.int (nI wn), .int (nI (tK (tb k7) &&& tK (tb k7))), .int (nI (tK (tb k7)))]) (rest := []) ⟨hx, hb, hml, hown, hts⟩ (c_V_marksOf l D dT _ wn (tK (tb k7) &&& tK (tb k7)) (tK (tb k7)) (by omega) (and_8 (tK_lt _)) (tK_lt _)) ⟨callB_of 3 hts (gI gd_up gd_c q59) rfl rfl rfl (ht _ q1) (ht _ q57) hd_V_marksOf ⟨Nat.le_of_ble_eq_true rfl, Nat.le_of_ble_eq_true rfl⟩, ht _ q58⟩ (z_preS hK) rfl rfl hl.1 rfl (lv_room (Nat.le_of_ble_eq_true rfl)) d_V_wantedType_155 ⟨Nat.zero_le _, Nat.zero_le _⟩) (fun v20 hv19 => ?_)
                subst hv19
                refine lv_istore (lv' := [(9, .int (nI (mks wn (tK (tb k7) &&& tK (tb k7)) (tK (tb k7))))), (8, .int (nI ((1 + (tP (tb k7))) + 0))), (7, .int 1), (6, .ref a6), (5, .ref a6), (4, .int 0), (0, .ref vv), (1, .int (nI wn)), (2, .int (nI k7)), (3, .int b)]) hx hb d_V_wantedType_158 hl (by decide) rfl (fun ls hl => ?_)
                have hSp := hS
                refine z_newo (ci := 1) hx hb ht in_Type ty_Type tyk_Type hown (ht _ q55) (ht _ q56) (ht _ q5) hK hS rfl fs_Type (Nat.le_of_ble_eq_true rfl) (Nat.le_of_ble_eq_true rfl) d_V_wantedType_160 (fun ad21 H hqad21 hzad21 oad21 hoad21 hS => ?_)
                have hgad21 : s.heap.size ≤ ad21 := by rw [hqad21]; exact hSp.1
                have hAad21 : (fun q => s.heap.size ≤ q) ad21 := hgad21
                have hgbad21 := Nat.le_trans hN.1 (Nat.le_of_eq hqad21.symm)
                have hN := hN.grew hzad21 hoad21
                refine lv_dup hx hb d_V_wantedType_163 rfl ?_
                refine lv_iload_n hx hb d_V_wantedType_164 rfl (lv_at hl 7 rfl) ?_
                refine lv_iload_n hx hb d_V_wantedType_165 rfl (lv_at hl 8 rfl) ?_
                refine lv_iload hx hb d_V_wantedType_166 (lv_at hl 5 rfl) ?_
                refine lv_if_eq (tgt := 175) hx hb d_V_wantedType_168 (by decide) (fun _ => ?_) (fun c22 => absurd c22 (by decide))
                refine lv_iconst (v := (-1)) hx hb d_V_wantedType_175 (by decide) ?_
                refine lv_iload hx hb d_V_wantedType_176 (lv_at hl 1 rfl) ?_
                refine lv_iload hx hb d_V_wantedType_178 (lv_at hl 0 rfl) ?_
                refine z_callQ (va_runI (As := [.int (nI wn), .int (nI k7), .int (-1), .int (nI ((1 + (tP (tb k7))) + 0)), .int (nI (mks wn (tK (tb k7) &&& tK (tb k7)) (tK (tb k7))))]) (rest := [.ref ad21]) ⟨hx, hb, hml, hown, hts⟩ (c_Type_init l D dT _ ad21 oad21 (nI wn) (nI k7) (-1) (nI ((1 + (tP (tb k7))) + 0)) (nI (mks wn (tK (tb k7) &&& tK (tb k7)) (tK (tb k7))))) ⟨callB_of 5 hts (gI gd_up gd_c q62) rfl rfl rfl (ht _ q5) (ht _ q60) hd_Type_init ⟨Nat.le_of_ble_eq_true rfl, Nat.le_of_ble_eq_true rfl⟩, rfl, ht _ q61⟩ (z_preS hK) rfl rfl hl.1 rfl (lv_room (Nat.le_of_ble_eq_true rfl)) d_V_wantedType_180 ⟨(Nat.le_of_ble_eq_true rfl), (Nat.le_of_ble_eq_true rfl)⟩) hS (fun q9 h9 => by rw [show q9 = ad21 from h9]; exact hAad21) (fun v24 H locs hv23 hz25 hf26 hS => ?_)
                obtain ⟨rfl, oad21⟩ := hv23
                have oad21 : va_at D cls (ad21, .inr (1, [.int (nI wn), .int (nI k7), .int (-1), .int (nI ((1 + (tP (tb k7))) + 0)), .int (nI (mks wn (tK (tb k7) &&& tK (tb k7)) (tK (tb k7))))])) H := oad21
                have hN := hN.call hz25 hf26 (fun x hx h9 => by have h8 : x = ad21 := h9; omega)
                refine W.eq (g2 := F0 m 183 ls [.ref ad21]) rfl ?_
                exact z_aretQ hx hb hr hlocks d_V_wantedType_183 (Or.inl ⟨_, rfl⟩) (Or.inr ⟨_, rfl⟩) hS (Nat.le_of_ble_eq_true rfl) (Nat.le_of_ble_eq_true rfl) (Or.inr ⟨ad21, wn, k7, none, rfl, by rw [row_1 htc h10 (by omega) hk7, if_pos ⟨fun h9 => hmk, by omega⟩], ⟨h10, h18, hk7, Iff.intro (fun _ => by omega) (fun _ => rfl), (fun j hj => by cases hj), show 1 + tP (tb k7) + 0 ≤ 200 by omega, fun h9 => hmk⟩, hgad21, by have h8 := oad21; rw [mks_1 h10 (by omega)] at h8; exact h8⟩)
              · have nc18 : ¬ ((1 + (tP (tb k7))) + 0) ≤ 200 := fun h9 => c18 ((nI_leI (a := ((1 + (tP (tb k7))) + 0)) (b := 200) (by omega) (by omega)).mpr h9)
                refine lv_null hx hb d_V_wantedType_136 ?_
                exact z_aretQ hx hb hr hlocks d_V_wantedType_137 (Or.inl ⟨_, rfl⟩) (Or.inl rfl) hS (Nat.le_of_ble_eq_true rfl) (Nat.le_of_ble_eq_true rfl) (Or.inl ⟨rfl, by rw [row_1 htc h10 (by omega) hk7, if_neg (fun h9 => absurd h9.2 (by omega))]⟩)
            · rw [if_neg hmk] at hv14
              subst hv14
              refine lv_if_ne (tgt := 104) hx hb d_V_wantedType_99 (by decide) (fun c27 => absurd c27 (by decide)) (fun _ => ?_)
              refine lv_null hx hb d_V_wantedType_102 ?_
              exact z_aretQ hx hb hr hlocks d_V_wantedType_103 (Or.inl ⟨_, rfl⟩) (Or.inl rfl) hS (Nat.le_of_ble_eq_true rfl) (Nat.le_of_ble_eq_true rfl) (Or.inl ⟨rfl, by rw [row_1 htc h10 (by omega) hk7, if_neg (fun h9 => hmk (h9.1 (by omega)))]⟩)
          · have nc12 : ¬ wn = 12 := fun h9 => c12 ((nI_eq (a := wn) (b := 12) (by omega) (by omega)).mpr h9)
            refine lv_iload_n hx hb d_V_wantedType_69 rfl (lv_at hl 4 rfl) ?_
            refine lv_bipush (v := 15) hx hb d_V_wantedType_70 (by decide) ?_
            refine lv_icmp_eq (tgt := 81) hx hb d_V_wantedType_72 (by decide) (fun c28 => absurd ((nI_eq (a := wn) (b := 15) (by omega) (by omega)).mp c28) (by omega)) (fun c28 => ?_)
            refine lv_iload_n hx hb d_V_wantedType_75 rfl (lv_at hl 4 rfl) ?_
            refine lv_bipush (v := 16) hx hb d_V_wantedType_76 (by decide) ?_
            refine lv_icmp_ne (tgt := 85) hx hb d_V_wantedType_78 (by decide) (fun c29 => ?_) (fun c29 => absurd ((nI_eq (a := wn) (b := 16) (by omega) (by omega)).mp c29) (by omega))
            refine lv_iconst (v := 0) hx hb d_V_wantedType_85 (by decide) ?_
            refine lv_istore (lv' := [(7, .int 0), (6, .ref a6), (5, .ref a6), (4, .int 0), (0, .ref vv), (1, .int (nI wn)), (2, .int (nI k7)), (3, .int b)]) hx hb d_V_wantedType_86 hl (by decide) rfl (fun ls hl => ?_)
            refine lv_iload hx hb d_V_wantedType_88 (lv_at hl 0 rfl) ?_
            refine lv_if_eq (tgt := 104) hx hb d_V_wantedType_90 (by decide) (fun _ => ?_) (fun c30 => absurd c30 (by decide))
            refine lv_iconst (v := 1) hx hb d_V_wantedType_104 (by decide) ?_
            refine lv_aload hx hb d_V_wantedType_105 (lv_at hl 2 rfl) ?_
            refine va_get (D := D) (ci := 1) (v := .int (nI (tP (tb k7)))) (C := "ValueTrees$Type") (T := T_Type) (N := 5) hx hb ht in_Type hown hK.1 (z_1 (oa6.grew hN.2)) 0 rfl rfl 3 (by decide) (ht _ q71) (fun _ h9 => h9) rfl d_V_wantedType_107 ?_
            refine lv_iadd hx hb d_V_wantedType_110 ?_
            rw [show ((1 + (nI (tP (tb k7)))) : Int32) = nI (1 + (tP (tb k7))) from nI_add 1 (tP (tb k7))]
            refine lv_iload hx hb d_V_wantedType_111 (lv_at hl 3 rfl) ?_
            refine lv_if_eq (tgt := 124) hx hb d_V_wantedType_113 (by decide) (fun _ => ?_) (fun c31 => absurd c31 (by decide))
            refine lv_iconst (v := 0) hx hb d_V_wantedType_124 (by decide) ?_
            refine lv_iadd hx hb d_V_wantedType_125 ?_
            rw [show (((nI (1 + (tP (tb k7)))) + 0) : Int32) = nI ((1 + (tP (tb k7))) + 0) from nI_add (1 + (tP (tb k7))) 0]
            refine lv_istore (lv' := [(8, .int (nI ((1 + (tP (tb k7))) + 0))), (7, .int 0), (6, .ref a6), (5, .ref a6), (4, .int 0), (0, .ref vv), (1, .int (nI wn)), (2, .int (nI k7)), (3, .int b)]) hx hb d_V_wantedType_126 hl (by decide) rfl (fun ls hl => ?_)
            refine lv_iload hx hb d_V_wantedType_128 (lv_at hl 0 rfl) ?_
            refine lv_sipush (v := 200) hx hb d_V_wantedType_130 (by decide) ?_
            refine lv_icmp_le (tgt := 138) hx hb d_V_wantedType_133 (by decide) (fun c32 => ?_) (fun c32 => ?_)
            · have nc32 : ((1 + (tP (tb k7))) + 0) ≤ 200 := (nI_leI (a := ((1 + (tP (tb k7))) + 0)) (b := 200) (by omega) (by omega)).mp c32
              refine lv_iload_n hx hb d_V_wantedType_138 rfl (lv_at hl 6 rfl) ?_
              refine lv_aload hx hb d_V_wantedType_139 (lv_at hl 3 rfl) ?_
              refine va_get (D := D) (ci := 1) (v := .int (nI (tK (tb k7)))) (C := "ValueTrees$Type") (T := T_Type) (N := 5) hx hb ht in_Type hown hK.1 (z_1 (oa6.grew hN.2)) 0 rfl rfl 4 (by decide) (ht _ q73) (fun _ h9 => h9) rfl d_V_wantedType_141 ?_
              refine lv_aload hx hb d_V_wantedType_144 (lv_at hl 2 rfl) ?_
              refine va_get (D := D) (ci := 1) (v := .int (nI (tK (tb k7)))) (C := "ValueTrees$Type") (T := T_Type) (N := 5) hx hb ht in_Type hown hK.1 (z_1 (oa6.grew hN.2)) 0 rfl rfl 4 (by decide) (ht _ q73) (fun _ h9 => h9) rfl d_V_wantedType_146 ?_
              refine lv_iand hx hb d_V_wantedType_149 ?_
              rw [show (((nI (tK (tb k7))) &&& (nI (tK (tb k7)))) : Int32) = nI (tK (tb k7) &&& tK (tb k7)) from nI_and8 (tK_lt _) (tK_lt _)]
              refine lv_aload hx hb d_V_wantedType_150 (lv_at hl 2 rfl) ?_
              refine va_get (D := D) (ci := 1) (v := .int (nI (tK (tb k7)))) (C := "ValueTrees$Type") (T := T_Type) (N := 5) hx hb ht in_Type hown hK.1 (z_1 (oa6.grew hN.2)) 0 rfl rfl 4 (by decide) (ht _ q73) (fun _ h9 => h9) rfl d_V_wantedType_152 ?_
              refine z_callR (va_runS (As := [.int (nI wn), .int (nI (tK (tb k7) &&& tK (tb k7))), .int (nI (tK (tb k7)))]) (rest := []) ⟨hx, hb, hml, hown, hts⟩ (c_V_marksOf l D dT _ wn (tK (tb k7) &&& tK (tb k7)) (tK (tb k7)) (by omega) (and_8 (tK_lt _)) (tK_lt _)) ⟨callB_of 3 hts (gI gd_up gd_c q59) rfl rfl rfl (ht _ q1) (ht _ q57) hd_V_marksOf ⟨Nat.le_of_ble_eq_true rfl, Nat.le_of_ble_eq_true rfl⟩, ht _ q58⟩ (z_preS hK) rfl rfl hl.1 rfl (lv_room (Nat.le_of_ble_eq_true rfl)) d_V_wantedType_155 ⟨Nat.zero_le _, Nat.zero_le _⟩) (fun v34 hv33 => ?_)
              subst hv33
              refine lv_istore (lv' := [(9, .int (nI (mks wn (tK (tb k7) &&& tK (tb k7)) (tK (tb k7))))), (8, .int (nI ((1 + (tP (tb k7))) + 0))), (7, .int 0), (6, .ref a6), (5, .ref a6), (4, .int 0), (0, .ref vv), (1, .int (nI wn)), (2, .int (nI k7)), (3, .int b)]) hx hb d_V_wantedType_158 hl (by decide) rfl (fun ls hl => ?_)
              have hSp := hS
              refine z_newo (ci := 1) hx hb ht in_Type ty_Type tyk_Type hown (ht _ q55) (ht _ q56) (ht _ q5) hK hS rfl fs_Type (Nat.le_of_ble_eq_true rfl) (Nat.le_of_ble_eq_true rfl) d_V_wantedType_160 (fun ad35 H hqad35 hzad35 oad35 hoad35 hS => ?_)
              have hgad35 : s.heap.size ≤ ad35 := by rw [hqad35]; exact hSp.1
              have hAad35 : (fun q => s.heap.size ≤ q) ad35 := hgad35
              have hgbad35 := Nat.le_trans hN.1 (Nat.le_of_eq hqad35.symm)
              have hN := hN.grew hzad35 hoad35
              refine lv_dup hx hb d_V_wantedType_163 rfl ?_
              refine lv_iload_n hx hb d_V_wantedType_164 rfl (lv_at hl 7 rfl) ?_
              refine lv_iload_n hx hb d_V_wantedType_165 rfl (lv_at hl 8 rfl) ?_
              refine lv_iload hx hb d_V_wantedType_166 (lv_at hl 5 rfl) ?_
              refine lv_if_eq (tgt := 175) hx hb d_V_wantedType_168 (by decide) (fun _ => ?_) (fun c36 => absurd c36 (by decide))
              refine lv_iconst (v := (-1)) hx hb d_V_wantedType_175 (by decide) ?_
              refine lv_iload hx hb d_V_wantedType_176 (lv_at hl 1 rfl) ?_
              refine lv_iload hx hb d_V_wantedType_178 (lv_at hl 0 rfl) ?_
              refine z_callQ (va_runI (As := [.int (nI wn), .int (nI k7), .int (-1), .int (nI ((1 + (tP (tb k7))) + 0)), .int (nI (mks wn (tK (tb k7) &&& tK (tb k7)) (tK (tb k7))))]) (rest := [.ref ad35]) ⟨hx, hb, hml, hown, hts⟩ (c_Type_init l D dT _ ad35 oad35 (nI wn) (nI k7) (-1) (nI ((1 + (tP (tb k7))) + 0)) (nI (mks wn (tK (tb k7) &&& tK (tb k7)) (tK (tb k7))))) ⟨callB_of 5 hts (gI gd_up gd_c q62) rfl rfl rfl (ht _ q5) (ht _ q60) hd_Type_init ⟨Nat.le_of_ble_eq_true rfl, Nat.le_of_ble_eq_true rfl⟩, rfl, ht _ q61⟩ (z_preS hK) rfl rfl hl.1 rfl (lv_room (Nat.le_of_ble_eq_true rfl)) d_V_wantedType_180 ⟨(Nat.le_of_ble_eq_true rfl), (Nat.le_of_ble_eq_true rfl)⟩) hS (fun q9 h9 => by rw [show q9 = ad35 from h9]; exact hAad35) (fun v38 H locs hv37 hz39 hf40 hS => ?_)
              obtain ⟨rfl, oad35⟩ := hv37
              have oad35 : va_at D cls (ad35, .inr (1, [.int (nI wn), .int (nI k7), .int (-1), .int (nI ((1 + (tP (tb k7))) + 0)), .int (nI (mks wn (tK (tb k7) &&& tK (tb k7)) (tK (tb k7))))])) H := oad35
              have hN := hN.call hz39 hf40 (fun x hx h9 => by have h8 : x = ad35 := h9; omega)
              refine W.eq (g2 := F0 m 183 ls [.ref ad35]) rfl ?_
              exact z_aretQ hx hb hr hlocks d_V_wantedType_183 (Or.inl ⟨_, rfl⟩) (Or.inr ⟨_, rfl⟩) hS (Nat.le_of_ble_eq_true rfl) (Nat.le_of_ble_eq_true rfl) (Or.inr ⟨ad35, wn, k7, none, rfl, by rw [row_1 htc h10 (by omega) hk7, if_pos ⟨fun h9 => absurd h9 (by omega), by omega⟩], ⟨h10, h18, hk7, Iff.intro (fun _ => by omega) (fun _ => rfl), (fun j hj => by cases hj), show 1 + tP (tb k7) + 0 ≤ 200 by omega, fun h9 => absurd h9 (by omega)⟩, hgad35, by have h8 := oad35; rw [mks_1 h10 (by omega)] at h8; exact h8⟩)
            · have nc32 : ¬ ((1 + (tP (tb k7))) + 0) ≤ 200 := fun h9 => c32 ((nI_leI (a := ((1 + (tP (tb k7))) + 0)) (b := 200) (by omega) (by omega)).mpr h9)
              refine lv_null hx hb d_V_wantedType_136 ?_
              exact z_aretQ hx hb hr hlocks d_V_wantedType_137 (Or.inl ⟨_, rfl⟩) (Or.inl rfl) hS (Nat.le_of_ble_eq_true rfl) (Nat.le_of_ble_eq_true rfl) (Or.inl ⟨rfl, by rw [row_1 htc h10 (by omega) hk7, if_neg (fun h9 => absurd h9.2 (by omega))]⟩)
      · have nc3 : ¬ wn < 14 := fun h9 => c3 ((nI_ltI (a := wn) (b := 14) (by omega) (by omega)).mpr h9)
        refine lv_iconst (v := 1) hx hb d_V_wantedType_20 (by decide) ?_
        refine lv_goto (tgt := 25) hx hb d_V_wantedType_21 (by decide) ?_
        refine lv_istore (lv' := [(4, .int 1), (0, .ref vv), (1, .int (nI wn)), (2, .int a), (3, .int b)]) hx hb d_V_wantedType_25 hl (by decide) rfl (fun ls hl => ?_)
        refine lv_aload_n hx hb d_V_wantedType_27 rfl (lv_at hl 1 rfl) ?_
        refine lv_iload_n hx hb d_V_wantedType_28 rfl (lv_at hl 3 rfl) ?_
        refine z_callR (va_runV (C := "ValueTrees") (As := [.int a]) (rest := []) ⟨hx, hb, hml, hown, hts⟩ (c_V_typeNumbered l D dT _ Bq vv rg li ed tb tc RV (hC.up hN) hV a) ⟨callB_of 1 hts (gI gd_up gd_c q163) rfl rfl rfl (ht _ q1) (ht _ q160) hd_V_typeNumbered ⟨Nat.le_of_ble_eq_true rfl, Nat.le_of_ble_eq_true rfl⟩, ht _ q162, ht _ qs4⟩ (z_preV hK (va_recv hK.1 (z_1 (hvv.grew hN.2)) (ci := 0) (q0 := 0) rfl rfl)) rfl rfl hl.1 rfl (lv_room (Nat.le_of_ble_eq_true rfl)) d_V_wantedType_29 ⟨Nat.zero_le _, Nat.zero_le _⟩) (fun v42 hv41 => ?_)
        rcases hv41 with ⟨rfl, hq46⟩ | ⟨a43, k44, rfl, hq46, hk44, hnba43, oa43⟩
        · refine lv_astoreN (lv' := [(5, .null), (4, .int 1), (0, .ref vv), (1, .int (nI wn)), (2, .int a), (3, .int b)]) hx hb d_V_wantedType_32 hl (by decide) rfl (fun ls hl => ?_)
          refine lv_iload hx hb d_V_wantedType_34 (lv_at hl 1 rfl) ?_
          refine lv_if_eq (tgt := 47) hx hb d_V_wantedType_36 (by decide) (fun c47 => absurd c47 (by decide)) (fun _ => ?_)
          refine lv_aload_n hx hb d_V_wantedType_39 rfl (lv_at hl 2 rfl) ?_
          refine lv_iload_n hx hb d_V_wantedType_40 rfl (lv_at hl 5 rfl) ?_
          refine z_callR (va_runV (C := "ValueTrees") (As := [.int b]) (rest := []) ⟨hx, hb, hml, hown, hts⟩ (c_V_typeNumbered l D dT _ Bq vv rg li ed tb tc RV (hC.up hN) hV b) ⟨callB_of 1 hts (gI gd_up gd_c q163) rfl rfl rfl (ht _ q1) (ht _ q160) hd_V_typeNumbered ⟨Nat.le_of_ble_eq_true rfl, Nat.le_of_ble_eq_true rfl⟩, ht _ q162, ht _ qs4⟩ (z_preV hK (va_recv hK.1 (z_1 (hvv.grew hN.2)) (ci := 0) (q0 := 0) rfl rfl)) rfl rfl hl.1 rfl (lv_room (Nat.le_of_ble_eq_true rfl)) d_V_wantedType_41 ⟨Nat.zero_le _, Nat.zero_le _⟩) (fun v49 hv48 => ?_)
          rcases hv48 with ⟨rfl, hq53⟩ | ⟨a50, k51, rfl, hq53, hk51, hnba50, oa50⟩
          · refine lv_goto (tgt := 49) hx hb d_V_wantedType_44 (by decide) ?_
            refine lv_astoreN (lv' := [(6, .null), (5, .null), (4, .int 1), (0, .ref vv), (1, .int (nI wn)), (2, .int a), (3, .int b)]) hx hb d_V_wantedType_49 hl (by decide) rfl (fun ls hl => ?_)
            refine lv_aloadN hx hb d_V_wantedType_51 (lv_at hl 1 rfl) ?_
            refine lv_ifnullN (tgt := 61) hx hb d_V_wantedType_53 (by decide) ?_
            refine lv_null hx hb d_V_wantedType_61 ?_
            exact z_aretQ hx hb hr hlocks d_V_wantedType_62 (Or.inl ⟨_, rfl⟩) (Or.inl rfl) hS (Nat.le_of_ble_eq_true rfl) (Nat.le_of_ble_eq_true rfl) (Or.inl ⟨rfl, row_a hq46⟩)
          · refine lv_goto (tgt := 49) hx hb d_V_wantedType_44 (by decide) ?_
            refine lv_astore (lv' := [(6, .ref a50), (5, .null), (4, .int 1), (0, .ref vv), (1, .int (nI wn)), (2, .int a), (3, .int b)]) hx hb d_V_wantedType_49 hl (by decide) rfl (fun ls hl => ?_)
            refine lv_aloadN hx hb d_V_wantedType_51 (lv_at hl 1 rfl) ?_
            refine lv_ifnullN (tgt := 61) hx hb d_V_wantedType_53 (by decide) ?_
            refine lv_null hx hb d_V_wantedType_61 ?_
            exact z_aretQ hx hb hr hlocks d_V_wantedType_62 (Or.inl ⟨_, rfl⟩) (Or.inl rfl) hS (Nat.le_of_ble_eq_true rfl) (Nat.le_of_ble_eq_true rfl) (Or.inl ⟨rfl, row_a hq46⟩)
        · refine lv_astore (lv' := [(5, .ref a43), (4, .int 1), (0, .ref vv), (1, .int (nI wn)), (2, .int a), (3, .int b)]) hx hb d_V_wantedType_32 hl (by decide) rfl (fun ls hl => ?_)
          refine lv_iload hx hb d_V_wantedType_34 (lv_at hl 1 rfl) ?_
          refine lv_if_eq (tgt := 47) hx hb d_V_wantedType_36 (by decide) (fun c54 => absurd c54 (by decide)) (fun _ => ?_)
          refine lv_aload_n hx hb d_V_wantedType_39 rfl (lv_at hl 2 rfl) ?_
          refine lv_iload_n hx hb d_V_wantedType_40 rfl (lv_at hl 5 rfl) ?_
          refine z_callR (va_runV (C := "ValueTrees") (As := [.int b]) (rest := []) ⟨hx, hb, hml, hown, hts⟩ (c_V_typeNumbered l D dT _ Bq vv rg li ed tb tc RV (hC.up hN) hV b) ⟨callB_of 1 hts (gI gd_up gd_c q163) rfl rfl rfl (ht _ q1) (ht _ q160) hd_V_typeNumbered ⟨Nat.le_of_ble_eq_true rfl, Nat.le_of_ble_eq_true rfl⟩, ht _ q162, ht _ qs4⟩ (z_preV hK (va_recv hK.1 (z_1 (hvv.grew hN.2)) (ci := 0) (q0 := 0) rfl rfl)) rfl rfl hl.1 rfl (lv_room (Nat.le_of_ble_eq_true rfl)) d_V_wantedType_41 ⟨Nat.zero_le _, Nat.zero_le _⟩) (fun v56 hv55 => ?_)
          rcases hv55 with ⟨rfl, hq60⟩ | ⟨a57, k58, rfl, hq60, hk58, hnba57, oa57⟩
          · refine lv_goto (tgt := 49) hx hb d_V_wantedType_44 (by decide) ?_
            refine lv_astoreN (lv' := [(6, .null), (5, .ref a43), (4, .int 1), (0, .ref vv), (1, .int (nI wn)), (2, .int a), (3, .int b)]) hx hb d_V_wantedType_49 hl (by decide) rfl (fun ls hl => ?_)
            refine lv_aload hx hb d_V_wantedType_51 (lv_at hl 1 rfl) ?_
            refine lv_ifnull hx hb d_V_wantedType_53 ?_
            refine lv_aloadN hx hb d_V_wantedType_56 (lv_at hl 0 rfl) ?_
            refine lv_ifnonnullN hx hb d_V_wantedType_58 ?_
            refine lv_null hx hb d_V_wantedType_61 ?_
            exact z_aretQ hx hb hr hlocks d_V_wantedType_62 (Or.inl ⟨_, rfl⟩) (Or.inl rfl) hS (Nat.le_of_ble_eq_true rfl) (Nat.le_of_ble_eq_true rfl) (Or.inl ⟨rfl, row_b (by omega) (by omega) hq60⟩)
          · refine lv_goto (tgt := 49) hx hb d_V_wantedType_44 (by decide) ?_
            refine lv_astore (lv' := [(6, .ref a57), (5, .ref a43), (4, .int 1), (0, .ref vv), (1, .int (nI wn)), (2, .int a), (3, .int b)]) hx hb d_V_wantedType_49 hl (by decide) rfl (fun ls hl => ?_)
            refine lv_aload hx hb d_V_wantedType_51 (lv_at hl 1 rfl) ?_
            refine lv_ifnull hx hb d_V_wantedType_53 ?_
            refine lv_aload hx hb d_V_wantedType_56 (lv_at hl 0 rfl) ?_
            refine lv_ifnonnull (tgt := 63) hx hb d_V_wantedType_58 (by decide) ?_
            obtain ⟨ea9, -⟩ := tN_some hq46 htc
            subst ea9
            have hpk44 := (hO.2.2 _ hk44).2.2.2.2.2.2.2.2.1
            obtain ⟨eb9, -⟩ := tN_some hq60 htc
            subst eb9
            have hpk58 := (hO.2.2 _ hk58).2.2.2.2.2.2.2.2.1
            refine lv_iload_n hx hb d_V_wantedType_63 rfl (lv_at hl 4 rfl) ?_
            refine lv_bipush (v := 12) hx hb d_V_wantedType_64 (by decide) ?_
            refine lv_icmp_eq (tgt := 81) hx hb d_V_wantedType_66 (by decide) (fun c61 => absurd ((nI_eq (a := wn) (b := 12) (by omega) (by omega)).mp c61) (by omega)) (fun c61 => ?_)
            refine lv_iload_n hx hb d_V_wantedType_69 rfl (lv_at hl 4 rfl) ?_
            refine lv_bipush (v := 15) hx hb d_V_wantedType_70 (by decide) ?_
            refine lv_icmp_eq (tgt := 81) hx hb d_V_wantedType_72 (by decide) (fun c62 => ?_) (fun c62 => ?_)
            · have nc62 : wn = 15 := (nI_eq (a := wn) (b := 15) (by omega) (by omega)).mp c62
              refine lv_iconst (v := 1) hx hb d_V_wantedType_81 (by decide) ?_
              refine lv_goto (tgt := 86) hx hb d_V_wantedType_82 (by decide) ?_
              refine lv_istore (lv' := [(7, .int 1), (6, .ref a57), (5, .ref a43), (4, .int 1), (0, .ref vv), (1, .int (nI wn)), (2, .int (nI k44)), (3, .int (nI k58))]) hx hb d_V_wantedType_86 hl (by decide) rfl (fun ls hl => ?_)
              refine lv_iload hx hb d_V_wantedType_88 (lv_at hl 0 rfl) ?_
              refine lv_if_eq (tgt := 104) hx hb d_V_wantedType_90 (by decide) (fun c63 => absurd c63 (by decide)) (fun _ => ?_)
              refine lv_aload hx hb d_V_wantedType_93 (lv_at hl 2 rfl) ?_
              refine lv_iconst (v := 1) hx hb d_V_wantedType_95 (by decide) ?_
              refine z_callR (va_runV (C := "ValueTrees$Type") (As := [.int 1]) (rest := []) ⟨hx, hb, hml, hown, hts⟩ (c_Type_isMarked l D dT _ a43 (tb k44) (oa43.grew hN.2)) ⟨callB_of 1 hts (gI gd_up gd_c q185) rfl rfl rfl (ht _ q5) (ht _ q182) hd_Type_isMarked ⟨Nat.le_of_ble_eq_true rfl, Nat.le_of_ble_eq_true rfl⟩, ht _ q183, ht _ q184⟩ (z_preV hK (va_recv hK.1 (z_1 (oa43.grew hN.2)) (ci := 1) (q0 := 0) rfl rfl)) rfl rfl hl.1 rfl (lv_room (Nat.le_of_ble_eq_true rfl)) d_V_wantedType_96 ⟨Nat.zero_le _, Nat.zero_le _⟩) (fun v65 hv64 => ?_)
              have hv64 : v65 = .int (if tC (tb k44) = true then 1 else 0) := hv64
              rcases Classical.em (tC (tb k44) = true) with hmk | hmk
              · rw [if_pos hmk] at hv64
                subst hv64
                refine lv_if_ne (tgt := 104) hx hb d_V_wantedType_99 (by decide) (fun _ => ?_) (fun c66 => absurd c66 (by decide))
                refine lv_iconst (v := 1) hx hb d_V_wantedType_104 (by decide) ?_
                refine lv_aload hx hb d_V_wantedType_105 (lv_at hl 2 rfl) ?_
                refine va_get (D := D) (ci := 1) (v := .int (nI (tP (tb k44)))) (C := "ValueTrees$Type") (T := T_Type) (N := 5) hx hb ht in_Type hown hK.1 (z_1 (oa43.grew hN.2)) 0 rfl rfl 3 (by decide) (ht _ q71) (fun _ h9 => h9) rfl d_V_wantedType_107 ?_
                refine lv_iadd hx hb d_V_wantedType_110 ?_
                rw [show ((1 + (nI (tP (tb k44)))) : Int32) = nI (1 + (tP (tb k44))) from nI_add 1 (tP (tb k44))]
                refine lv_iload hx hb d_V_wantedType_111 (lv_at hl 3 rfl) ?_
                refine lv_if_eq (tgt := 124) hx hb d_V_wantedType_113 (by decide) (fun c67 => absurd c67 (by decide)) (fun _ => ?_)
                refine lv_aload hx hb d_V_wantedType_116 (lv_at hl 1 rfl) ?_
                refine va_get (D := D) (ci := 1) (v := .int (nI (tP (tb k58)))) (C := "ValueTrees$Type") (T := T_Type) (N := 5) hx hb ht in_Type hown hK.1 (z_1 (oa57.grew hN.2)) 0 rfl rfl 3 (by decide) (ht _ q71) (fun _ h9 => h9) rfl d_V_wantedType_118 ?_
                refine lv_goto (tgt := 125) hx hb d_V_wantedType_121 (by decide) ?_
                refine lv_iadd hx hb d_V_wantedType_125 ?_
                rw [show (((nI (1 + (tP (tb k44)))) + (nI (tP (tb k58)))) : Int32) = nI ((1 + (tP (tb k44))) + (tP (tb k58))) from nI_add (1 + (tP (tb k44))) (tP (tb k58))]
                refine lv_istore (lv' := [(8, .int (nI ((1 + (tP (tb k44))) + (tP (tb k58))))), (7, .int 1), (6, .ref a57), (5, .ref a43), (4, .int 1), (0, .ref vv), (1, .int (nI wn)), (2, .int (nI k44)), (3, .int (nI k58))]) hx hb d_V_wantedType_126 hl (by decide) rfl (fun ls hl => ?_)
                refine lv_iload hx hb d_V_wantedType_128 (lv_at hl 0 rfl) ?_
                refine lv_sipush (v := 200) hx hb d_V_wantedType_130 (by decide) ?_
                refine lv_icmp_le (tgt := 138) hx hb d_V_wantedType_133 (by decide) (fun c68 => ?_) (fun c68 => ?_)
                · have nc68 : ((1 + (tP (tb k44))) + (tP (tb k58))) ≤ 200 := (nI_leI (a := ((1 + (tP (tb k44))) + (tP (tb k58)))) (b := 200) (by omega) (by omega)).mp c68
                  refine lv_iload_n hx hb d_V_wantedType_138 rfl (lv_at hl 6 rfl) ?_
                  refine lv_aload hx hb d_V_wantedType_139 (lv_at hl 3 rfl) ?_
                  refine va_get (D := D) (ci := 1) (v := .int (nI (tK (tb k44)))) (C := "ValueTrees$Type") (T := T_Type) (N := 5) hx hb ht in_Type hown hK.1 (z_1 (oa43.grew hN.2)) 0 rfl rfl 4 (by decide) (ht _ q73) (fun _ h9 => h9) rfl d_V_wantedType_141 ?_
                  refine lv_aload hx hb d_V_wantedType_144 (lv_at hl 2 rfl) ?_
                  refine va_get (D := D) (ci := 1) (v := .int (nI (tK (tb k58)))) (C := "ValueTrees$Type") (T := T_Type) (N := 5) hx hb ht in_Type hown hK.1 (z_1 (oa57.grew hN.2)) 0 rfl rfl 4 (by decide) (ht _ q73) (fun _ h9 => h9) rfl d_V_wantedType_146 ?_
                  refine lv_iand hx hb d_V_wantedType_149 ?_
                  rw [show (((nI (tK (tb k44))) &&& (nI (tK (tb k58)))) : Int32) = nI (tK (tb k44) &&& tK (tb k58)) from nI_and8 (tK_lt _) (tK_lt _)]
                  refine lv_aload hx hb d_V_wantedType_150 (lv_at hl 2 rfl) ?_
                  refine va_get (D := D) (ci := 1) (v := .int (nI (tK (tb k58)))) (C := "ValueTrees$Type") (T := T_Type) (N := 5) hx hb ht in_Type hown hK.1 (z_1 (oa57.grew hN.2)) 0 rfl rfl 4 (by decide) (ht _ q73) (fun _ h9 => h9) rfl d_V_wantedType_152 ?_
                  refine z_callR (va_runS (As := [.int (nI wn), .int (nI (tK (tb k44) &&& tK (tb k58))), .int (nI (tK (tb k58)))]) (rest := []) ⟨hx, hb, hml, hown, hts⟩ (c_V_marksOf l D dT _ wn (tK (tb k44) &&& tK (tb k58)) (tK (tb k58)) (by omega) (and_8 (tK_lt _)) (tK_lt _)) ⟨callB_of 3 hts (gI gd_up gd_c q59) rfl rfl rfl (ht _ q1) (ht _ q57) hd_V_marksOf ⟨Nat.le_of_ble_eq_true rfl, Nat.le_of_ble_eq_true rfl⟩, ht _ q58⟩ (z_preS hK) rfl rfl hl.1 rfl (lv_room (Nat.le_of_ble_eq_true rfl)) d_V_wantedType_155 ⟨Nat.zero_le _, Nat.zero_le _⟩) (fun v70 hv69 => ?_)
                  subst hv69
                  refine lv_istore (lv' := [(9, .int (nI (mks wn (tK (tb k44) &&& tK (tb k58)) (tK (tb k58))))), (8, .int (nI ((1 + (tP (tb k44))) + (tP (tb k58))))), (7, .int 1), (6, .ref a57), (5, .ref a43), (4, .int 1), (0, .ref vv), (1, .int (nI wn)), (2, .int (nI k44)), (3, .int (nI k58))]) hx hb d_V_wantedType_158 hl (by decide) rfl (fun ls hl => ?_)
                  have hSp := hS
                  refine z_newo (ci := 1) hx hb ht in_Type ty_Type tyk_Type hown (ht _ q55) (ht _ q56) (ht _ q5) hK hS rfl fs_Type (Nat.le_of_ble_eq_true rfl) (Nat.le_of_ble_eq_true rfl) d_V_wantedType_160 (fun ad71 H hqad71 hzad71 oad71 hoad71 hS => ?_)
                  have hgad71 : s.heap.size ≤ ad71 := by rw [hqad71]; exact hSp.1
                  have hAad71 : (fun q => s.heap.size ≤ q) ad71 := hgad71
                  have hgbad71 := Nat.le_trans hN.1 (Nat.le_of_eq hqad71.symm)
                  have hN := hN.grew hzad71 hoad71
                  refine lv_dup hx hb d_V_wantedType_163 rfl ?_
                  refine lv_iload_n hx hb d_V_wantedType_164 rfl (lv_at hl 7 rfl) ?_
                  refine lv_iload_n hx hb d_V_wantedType_165 rfl (lv_at hl 8 rfl) ?_
                  refine lv_iload hx hb d_V_wantedType_166 (lv_at hl 5 rfl) ?_
                  refine lv_if_eq (tgt := 175) hx hb d_V_wantedType_168 (by decide) (fun c72 => absurd c72 (by decide)) (fun _ => ?_)
                  refine lv_iload_n hx hb d_V_wantedType_171 rfl (lv_at hl 9 rfl) ?_
                  refine lv_goto (tgt := 176) hx hb d_V_wantedType_172 (by decide) ?_
                  refine lv_iload hx hb d_V_wantedType_176 (lv_at hl 1 rfl) ?_
                  refine lv_iload hx hb d_V_wantedType_178 (lv_at hl 0 rfl) ?_
                  refine z_callQ (va_runI (As := [.int (nI wn), .int (nI k44), .int (nI k58), .int (nI ((1 + (tP (tb k44))) + (tP (tb k58)))), .int (nI (mks wn (tK (tb k44) &&& tK (tb k58)) (tK (tb k58))))]) (rest := [.ref ad71]) ⟨hx, hb, hml, hown, hts⟩ (c_Type_init l D dT _ ad71 oad71 (nI wn) (nI k44) (nI k58) (nI ((1 + (tP (tb k44))) + (tP (tb k58)))) (nI (mks wn (tK (tb k44) &&& tK (tb k58)) (tK (tb k58))))) ⟨callB_of 5 hts (gI gd_up gd_c q62) rfl rfl rfl (ht _ q5) (ht _ q60) hd_Type_init ⟨Nat.le_of_ble_eq_true rfl, Nat.le_of_ble_eq_true rfl⟩, rfl, ht _ q61⟩ (z_preS hK) rfl rfl hl.1 rfl (lv_room (Nat.le_of_ble_eq_true rfl)) d_V_wantedType_180 ⟨(Nat.le_of_ble_eq_true rfl), (Nat.le_of_ble_eq_true rfl)⟩) hS (fun q9 h9 => by rw [show q9 = ad71 from h9]; exact hAad71) (fun v74 H locs hv73 hz75 hf76 hS => ?_)
                  obtain ⟨rfl, oad71⟩ := hv73
                  have oad71 : va_at D cls (ad71, .inr (1, [.int (nI wn), .int (nI k44), .int (nI k58), .int (nI ((1 + (tP (tb k44))) + (tP (tb k58)))), .int (nI (mks wn (tK (tb k44) &&& tK (tb k58)) (tK (tb k58))))])) H := oad71
                  have hN := hN.call hz75 hf76 (fun x hx h9 => by have h8 : x = ad71 := h9; omega)
                  refine W.eq (g2 := F0 m 183 ls [.ref ad71]) rfl ?_
                  exact z_aretQ hx hb hr hlocks d_V_wantedType_183 (Or.inl ⟨_, rfl⟩) (Or.inr ⟨_, rfl⟩) hS (Nat.le_of_ble_eq_true rfl) (Nat.le_of_ble_eq_true rfl) (Or.inr ⟨ad71, wn, k44, (some k58), rfl, by rw [row_2 htc (by omega) h18 hk44 hk58, if_pos ⟨fun h9 => hmk, by omega⟩], ⟨h10, h18, hk44, Iff.intro (fun h9 => by cases h9) (fun h9 => absurd h9 (by omega)), (fun j hj => by cases hj; exact hk58), show 1 + tP (tb k44) + tP (tb k58) ≤ 200 by omega, fun h9 => hmk⟩, hgad71, by have h8 := oad71; rw [mks_2 (by omega) h18] at h8; exact h8⟩)
                · have nc68 : ¬ ((1 + (tP (tb k44))) + (tP (tb k58))) ≤ 200 := fun h9 => c68 ((nI_leI (a := ((1 + (tP (tb k44))) + (tP (tb k58)))) (b := 200) (by omega) (by omega)).mpr h9)
                  refine lv_null hx hb d_V_wantedType_136 ?_
                  exact z_aretQ hx hb hr hlocks d_V_wantedType_137 (Or.inl ⟨_, rfl⟩) (Or.inl rfl) hS (Nat.le_of_ble_eq_true rfl) (Nat.le_of_ble_eq_true rfl) (Or.inl ⟨rfl, by rw [row_2 htc (by omega) h18 hk44 hk58, if_neg (fun h9 => absurd h9.2 (by omega))]⟩)
              · rw [if_neg hmk] at hv64
                subst hv64
                refine lv_if_ne (tgt := 104) hx hb d_V_wantedType_99 (by decide) (fun c77 => absurd c77 (by decide)) (fun _ => ?_)
                refine lv_null hx hb d_V_wantedType_102 ?_
                exact z_aretQ hx hb hr hlocks d_V_wantedType_103 (Or.inl ⟨_, rfl⟩) (Or.inl rfl) hS (Nat.le_of_ble_eq_true rfl) (Nat.le_of_ble_eq_true rfl) (Or.inl ⟨rfl, by rw [row_2 htc (by omega) h18 hk44 hk58, if_neg (fun h9 => hmk (h9.1 (by omega)))]⟩)
            · have nc62 : ¬ wn = 15 := fun h9 => c62 ((nI_eq (a := wn) (b := 15) (by omega) (by omega)).mpr h9)
              refine lv_iload_n hx hb d_V_wantedType_75 rfl (lv_at hl 4 rfl) ?_
              refine lv_bipush (v := 16) hx hb d_V_wantedType_76 (by decide) ?_
              refine lv_icmp_ne (tgt := 85) hx hb d_V_wantedType_78 (by decide) (fun c78 => ?_) (fun c78 => ?_)
              · have nc78 : ¬ wn = 16 := fun h9 => c78 ((nI_eq (a := wn) (b := 16) (by omega) (by omega)).mpr h9)
                refine lv_iconst (v := 0) hx hb d_V_wantedType_85 (by decide) ?_
                refine lv_istore (lv' := [(7, .int 0), (6, .ref a57), (5, .ref a43), (4, .int 1), (0, .ref vv), (1, .int (nI wn)), (2, .int (nI k44)), (3, .int (nI k58))]) hx hb d_V_wantedType_86 hl (by decide) rfl (fun ls hl => ?_)
                refine lv_iload hx hb d_V_wantedType_88 (lv_at hl 0 rfl) ?_
                refine lv_if_eq (tgt := 104) hx hb d_V_wantedType_90 (by decide) (fun _ => ?_) (fun c79 => absurd c79 (by decide))
                refine lv_iconst (v := 1) hx hb d_V_wantedType_104 (by decide) ?_
                refine lv_aload hx hb d_V_wantedType_105 (lv_at hl 2 rfl) ?_
                refine va_get (D := D) (ci := 1) (v := .int (nI (tP (tb k44)))) (C := "ValueTrees$Type") (T := T_Type) (N := 5) hx hb ht in_Type hown hK.1 (z_1 (oa43.grew hN.2)) 0 rfl rfl 3 (by decide) (ht _ q71) (fun _ h9 => h9) rfl d_V_wantedType_107 ?_
                refine lv_iadd hx hb d_V_wantedType_110 ?_
                rw [show ((1 + (nI (tP (tb k44)))) : Int32) = nI (1 + (tP (tb k44))) from nI_add 1 (tP (tb k44))]
                refine lv_iload hx hb d_V_wantedType_111 (lv_at hl 3 rfl) ?_
                refine lv_if_eq (tgt := 124) hx hb d_V_wantedType_113 (by decide) (fun c80 => absurd c80 (by decide)) (fun _ => ?_)
                refine lv_aload hx hb d_V_wantedType_116 (lv_at hl 1 rfl) ?_
                refine va_get (D := D) (ci := 1) (v := .int (nI (tP (tb k58)))) (C := "ValueTrees$Type") (T := T_Type) (N := 5) hx hb ht in_Type hown hK.1 (z_1 (oa57.grew hN.2)) 0 rfl rfl 3 (by decide) (ht _ q71) (fun _ h9 => h9) rfl d_V_wantedType_118 ?_
                refine lv_goto (tgt := 125) hx hb d_V_wantedType_121 (by decide) ?_
                refine lv_iadd hx hb d_V_wantedType_125 ?_
                rw [show (((nI (1 + (tP (tb k44)))) + (nI (tP (tb k58)))) : Int32) = nI ((1 + (tP (tb k44))) + (tP (tb k58))) from nI_add (1 + (tP (tb k44))) (tP (tb k58))]
                refine lv_istore (lv' := [(8, .int (nI ((1 + (tP (tb k44))) + (tP (tb k58))))), (7, .int 0), (6, .ref a57), (5, .ref a43), (4, .int 1), (0, .ref vv), (1, .int (nI wn)), (2, .int (nI k44)), (3, .int (nI k58))]) hx hb d_V_wantedType_126 hl (by decide) rfl (fun ls hl => ?_)
                refine lv_iload hx hb d_V_wantedType_128 (lv_at hl 0 rfl) ?_
                refine lv_sipush (v := 200) hx hb d_V_wantedType_130 (by decide) ?_
                refine lv_icmp_le (tgt := 138) hx hb d_V_wantedType_133 (by decide) (fun c81 => ?_) (fun c81 => ?_)
                · have nc81 : ((1 + (tP (tb k44))) + (tP (tb k58))) ≤ 200 := (nI_leI (a := ((1 + (tP (tb k44))) + (tP (tb k58)))) (b := 200) (by omega) (by omega)).mp c81
                  refine lv_iload_n hx hb d_V_wantedType_138 rfl (lv_at hl 6 rfl) ?_
                  refine lv_aload hx hb d_V_wantedType_139 (lv_at hl 3 rfl) ?_
                  refine va_get (D := D) (ci := 1) (v := .int (nI (tK (tb k44)))) (C := "ValueTrees$Type") (T := T_Type) (N := 5) hx hb ht in_Type hown hK.1 (z_1 (oa43.grew hN.2)) 0 rfl rfl 4 (by decide) (ht _ q73) (fun _ h9 => h9) rfl d_V_wantedType_141 ?_
                  refine lv_aload hx hb d_V_wantedType_144 (lv_at hl 2 rfl) ?_
                  refine va_get (D := D) (ci := 1) (v := .int (nI (tK (tb k58)))) (C := "ValueTrees$Type") (T := T_Type) (N := 5) hx hb ht in_Type hown hK.1 (z_1 (oa57.grew hN.2)) 0 rfl rfl 4 (by decide) (ht _ q73) (fun _ h9 => h9) rfl d_V_wantedType_146 ?_
                  refine lv_iand hx hb d_V_wantedType_149 ?_
                  rw [show (((nI (tK (tb k44))) &&& (nI (tK (tb k58)))) : Int32) = nI (tK (tb k44) &&& tK (tb k58)) from nI_and8 (tK_lt _) (tK_lt _)]
                  refine lv_aload hx hb d_V_wantedType_150 (lv_at hl 2 rfl) ?_
                  refine va_get (D := D) (ci := 1) (v := .int (nI (tK (tb k58)))) (C := "ValueTrees$Type") (T := T_Type) (N := 5) hx hb ht in_Type hown hK.1 (z_1 (oa57.grew hN.2)) 0 rfl rfl 4 (by decide) (ht _ q73) (fun _ h9 => h9) rfl d_V_wantedType_152 ?_
                  refine z_callR (va_runS (As := [.int (nI wn), .int (nI (tK (tb k44) &&& tK (tb k58))), .int (nI (tK (tb k58)))]) (rest := []) ⟨hx, hb, hml, hown, hts⟩ (c_V_marksOf l D dT _ wn (tK (tb k44) &&& tK (tb k58)) (tK (tb k58)) (by omega) (and_8 (tK_lt _)) (tK_lt _)) ⟨callB_of 3 hts (gI gd_up gd_c q59) rfl rfl rfl (ht _ q1) (ht _ q57) hd_V_marksOf ⟨Nat.le_of_ble_eq_true rfl, Nat.le_of_ble_eq_true rfl⟩, ht _ q58⟩ (z_preS hK) rfl rfl hl.1 rfl (lv_room (Nat.le_of_ble_eq_true rfl)) d_V_wantedType_155 ⟨Nat.zero_le _, Nat.zero_le _⟩) (fun v83 hv82 => ?_)
                  subst hv82
                  refine lv_istore (lv' := [(9, .int (nI (mks wn (tK (tb k44) &&& tK (tb k58)) (tK (tb k58))))), (8, .int (nI ((1 + (tP (tb k44))) + (tP (tb k58))))), (7, .int 0), (6, .ref a57), (5, .ref a43), (4, .int 1), (0, .ref vv), (1, .int (nI wn)), (2, .int (nI k44)), (3, .int (nI k58))]) hx hb d_V_wantedType_158 hl (by decide) rfl (fun ls hl => ?_)
                  have hSp := hS
                  refine z_newo (ci := 1) hx hb ht in_Type ty_Type tyk_Type hown (ht _ q55) (ht _ q56) (ht _ q5) hK hS rfl fs_Type (Nat.le_of_ble_eq_true rfl) (Nat.le_of_ble_eq_true rfl) d_V_wantedType_160 (fun ad84 H hqad84 hzad84 oad84 hoad84 hS => ?_)
                  have hgad84 : s.heap.size ≤ ad84 := by rw [hqad84]; exact hSp.1
                  have hAad84 : (fun q => s.heap.size ≤ q) ad84 := hgad84
                  have hgbad84 := Nat.le_trans hN.1 (Nat.le_of_eq hqad84.symm)
                  have hN := hN.grew hzad84 hoad84
                  refine lv_dup hx hb d_V_wantedType_163 rfl ?_
                  refine lv_iload_n hx hb d_V_wantedType_164 rfl (lv_at hl 7 rfl) ?_
                  refine lv_iload_n hx hb d_V_wantedType_165 rfl (lv_at hl 8 rfl) ?_
                  refine lv_iload hx hb d_V_wantedType_166 (lv_at hl 5 rfl) ?_
                  refine lv_if_eq (tgt := 175) hx hb d_V_wantedType_168 (by decide) (fun c85 => absurd c85 (by decide)) (fun _ => ?_)
                  refine lv_iload_n hx hb d_V_wantedType_171 rfl (lv_at hl 9 rfl) ?_
                  refine lv_goto (tgt := 176) hx hb d_V_wantedType_172 (by decide) ?_
                  refine lv_iload hx hb d_V_wantedType_176 (lv_at hl 1 rfl) ?_
                  refine lv_iload hx hb d_V_wantedType_178 (lv_at hl 0 rfl) ?_
                  refine z_callQ (va_runI (As := [.int (nI wn), .int (nI k44), .int (nI k58), .int (nI ((1 + (tP (tb k44))) + (tP (tb k58)))), .int (nI (mks wn (tK (tb k44) &&& tK (tb k58)) (tK (tb k58))))]) (rest := [.ref ad84]) ⟨hx, hb, hml, hown, hts⟩ (c_Type_init l D dT _ ad84 oad84 (nI wn) (nI k44) (nI k58) (nI ((1 + (tP (tb k44))) + (tP (tb k58)))) (nI (mks wn (tK (tb k44) &&& tK (tb k58)) (tK (tb k58))))) ⟨callB_of 5 hts (gI gd_up gd_c q62) rfl rfl rfl (ht _ q5) (ht _ q60) hd_Type_init ⟨Nat.le_of_ble_eq_true rfl, Nat.le_of_ble_eq_true rfl⟩, rfl, ht _ q61⟩ (z_preS hK) rfl rfl hl.1 rfl (lv_room (Nat.le_of_ble_eq_true rfl)) d_V_wantedType_180 ⟨(Nat.le_of_ble_eq_true rfl), (Nat.le_of_ble_eq_true rfl)⟩) hS (fun q9 h9 => by rw [show q9 = ad84 from h9]; exact hAad84) (fun v87 H locs hv86 hz88 hf89 hS => ?_)
                  obtain ⟨rfl, oad84⟩ := hv86
                  have oad84 : va_at D cls (ad84, .inr (1, [.int (nI wn), .int (nI k44), .int (nI k58), .int (nI ((1 + (tP (tb k44))) + (tP (tb k58)))), .int (nI (mks wn (tK (tb k44) &&& tK (tb k58)) (tK (tb k58))))])) H := oad84
                  have hN := hN.call hz88 hf89 (fun x hx h9 => by have h8 : x = ad84 := h9; omega)
                  refine W.eq (g2 := F0 m 183 ls [.ref ad84]) rfl ?_
                  exact z_aretQ hx hb hr hlocks d_V_wantedType_183 (Or.inl ⟨_, rfl⟩) (Or.inr ⟨_, rfl⟩) hS (Nat.le_of_ble_eq_true rfl) (Nat.le_of_ble_eq_true rfl) (Or.inr ⟨ad84, wn, k44, (some k58), rfl, by rw [row_2 htc (by omega) h18 hk44 hk58, if_pos ⟨fun h9 => absurd h9 (by omega), by omega⟩], ⟨h10, h18, hk44, Iff.intro (fun h9 => by cases h9) (fun h9 => absurd h9 (by omega)), (fun j hj => by cases hj; exact hk58), show 1 + tP (tb k44) + tP (tb k58) ≤ 200 by omega, fun h9 => absurd h9 (by omega)⟩, hgad84, by have h8 := oad84; rw [mks_2 (by omega) h18] at h8; exact h8⟩)
                · have nc81 : ¬ ((1 + (tP (tb k44))) + (tP (tb k58))) ≤ 200 := fun h9 => c81 ((nI_leI (a := ((1 + (tP (tb k44))) + (tP (tb k58)))) (b := 200) (by omega) (by omega)).mpr h9)
                  refine lv_null hx hb d_V_wantedType_136 ?_
                  exact z_aretQ hx hb hr hlocks d_V_wantedType_137 (Or.inl ⟨_, rfl⟩) (Or.inl rfl) hS (Nat.le_of_ble_eq_true rfl) (Nat.le_of_ble_eq_true rfl) (Or.inl ⟨rfl, by rw [row_2 htc (by omega) h18 hk44 hk58, if_neg (fun h9 => absurd h9.2 (by omega))]⟩)
              · have nc78 : wn = 16 := (nI_eq (a := wn) (b := 16) (by omega) (by omega)).mp c78
                refine lv_iconst (v := 1) hx hb d_V_wantedType_81 (by decide) ?_
                refine lv_goto (tgt := 86) hx hb d_V_wantedType_82 (by decide) ?_
                refine lv_istore (lv' := [(7, .int 1), (6, .ref a57), (5, .ref a43), (4, .int 1), (0, .ref vv), (1, .int (nI wn)), (2, .int (nI k44)), (3, .int (nI k58))]) hx hb d_V_wantedType_86 hl (by decide) rfl (fun ls hl => ?_)
                refine lv_iload hx hb d_V_wantedType_88 (lv_at hl 0 rfl) ?_
                refine lv_if_eq (tgt := 104) hx hb d_V_wantedType_90 (by decide) (fun c90 => absurd c90 (by decide)) (fun _ => ?_)
                refine lv_aload hx hb d_V_wantedType_93 (lv_at hl 2 rfl) ?_
                refine lv_iconst (v := 1) hx hb d_V_wantedType_95 (by decide) ?_
                refine z_callR (va_runV (C := "ValueTrees$Type") (As := [.int 1]) (rest := []) ⟨hx, hb, hml, hown, hts⟩ (c_Type_isMarked l D dT _ a43 (tb k44) (oa43.grew hN.2)) ⟨callB_of 1 hts (gI gd_up gd_c q185) rfl rfl rfl (ht _ q5) (ht _ q182) hd_Type_isMarked ⟨Nat.le_of_ble_eq_true rfl, Nat.le_of_ble_eq_true rfl⟩, ht _ q183, ht _ q184⟩ (z_preV hK (va_recv hK.1 (z_1 (oa43.grew hN.2)) (ci := 1) (q0 := 0) rfl rfl)) rfl rfl hl.1 rfl (lv_room (Nat.le_of_ble_eq_true rfl)) d_V_wantedType_96 ⟨Nat.zero_le _, Nat.zero_le _⟩) (fun v92 hv91 => ?_)
                have hv91 : v92 = .int (if tC (tb k44) = true then 1 else 0) := hv91
                rcases Classical.em (tC (tb k44) = true) with hmk | hmk
                · rw [if_pos hmk] at hv91
                  subst hv91
                  refine lv_if_ne (tgt := 104) hx hb d_V_wantedType_99 (by decide) (fun _ => ?_) (fun c93 => absurd c93 (by decide))
                  refine lv_iconst (v := 1) hx hb d_V_wantedType_104 (by decide) ?_
                  refine lv_aload hx hb d_V_wantedType_105 (lv_at hl 2 rfl) ?_
                  refine va_get (D := D) (ci := 1) (v := .int (nI (tP (tb k44)))) (C := "ValueTrees$Type") (T := T_Type) (N := 5) hx hb ht in_Type hown hK.1 (z_1 (oa43.grew hN.2)) 0 rfl rfl 3 (by decide) (ht _ q71) (fun _ h9 => h9) rfl d_V_wantedType_107 ?_
                  refine lv_iadd hx hb d_V_wantedType_110 ?_
                  rw [show ((1 + (nI (tP (tb k44)))) : Int32) = nI (1 + (tP (tb k44))) from nI_add 1 (tP (tb k44))]
                  refine lv_iload hx hb d_V_wantedType_111 (lv_at hl 3 rfl) ?_
                  refine lv_if_eq (tgt := 124) hx hb d_V_wantedType_113 (by decide) (fun c94 => absurd c94 (by decide)) (fun _ => ?_)
                  refine lv_aload hx hb d_V_wantedType_116 (lv_at hl 1 rfl) ?_
                  refine va_get (D := D) (ci := 1) (v := .int (nI (tP (tb k58)))) (C := "ValueTrees$Type") (T := T_Type) (N := 5) hx hb ht in_Type hown hK.1 (z_1 (oa57.grew hN.2)) 0 rfl rfl 3 (by decide) (ht _ q71) (fun _ h9 => h9) rfl d_V_wantedType_118 ?_
                  refine lv_goto (tgt := 125) hx hb d_V_wantedType_121 (by decide) ?_
                  refine lv_iadd hx hb d_V_wantedType_125 ?_
                  rw [show (((nI (1 + (tP (tb k44)))) + (nI (tP (tb k58)))) : Int32) = nI ((1 + (tP (tb k44))) + (tP (tb k58))) from nI_add (1 + (tP (tb k44))) (tP (tb k58))]
                  refine lv_istore (lv' := [(8, .int (nI ((1 + (tP (tb k44))) + (tP (tb k58))))), (7, .int 1), (6, .ref a57), (5, .ref a43), (4, .int 1), (0, .ref vv), (1, .int (nI wn)), (2, .int (nI k44)), (3, .int (nI k58))]) hx hb d_V_wantedType_126 hl (by decide) rfl (fun ls hl => ?_)
                  refine lv_iload hx hb d_V_wantedType_128 (lv_at hl 0 rfl) ?_
                  refine lv_sipush (v := 200) hx hb d_V_wantedType_130 (by decide) ?_
                  refine lv_icmp_le (tgt := 138) hx hb d_V_wantedType_133 (by decide) (fun c95 => ?_) (fun c95 => ?_)
                  · have nc95 : ((1 + (tP (tb k44))) + (tP (tb k58))) ≤ 200 := (nI_leI (a := ((1 + (tP (tb k44))) + (tP (tb k58)))) (b := 200) (by omega) (by omega)).mp c95
                    refine lv_iload_n hx hb d_V_wantedType_138 rfl (lv_at hl 6 rfl) ?_
                    refine lv_aload hx hb d_V_wantedType_139 (lv_at hl 3 rfl) ?_
                    refine va_get (D := D) (ci := 1) (v := .int (nI (tK (tb k44)))) (C := "ValueTrees$Type") (T := T_Type) (N := 5) hx hb ht in_Type hown hK.1 (z_1 (oa43.grew hN.2)) 0 rfl rfl 4 (by decide) (ht _ q73) (fun _ h9 => h9) rfl d_V_wantedType_141 ?_
                    refine lv_aload hx hb d_V_wantedType_144 (lv_at hl 2 rfl) ?_
                    refine va_get (D := D) (ci := 1) (v := .int (nI (tK (tb k58)))) (C := "ValueTrees$Type") (T := T_Type) (N := 5) hx hb ht in_Type hown hK.1 (z_1 (oa57.grew hN.2)) 0 rfl rfl 4 (by decide) (ht _ q73) (fun _ h9 => h9) rfl d_V_wantedType_146 ?_
                    refine lv_iand hx hb d_V_wantedType_149 ?_
                    rw [show (((nI (tK (tb k44))) &&& (nI (tK (tb k58)))) : Int32) = nI (tK (tb k44) &&& tK (tb k58)) from nI_and8 (tK_lt _) (tK_lt _)]
                    refine lv_aload hx hb d_V_wantedType_150 (lv_at hl 2 rfl) ?_
                    refine va_get (D := D) (ci := 1) (v := .int (nI (tK (tb k58)))) (C := "ValueTrees$Type") (T := T_Type) (N := 5) hx hb ht in_Type hown hK.1 (z_1 (oa57.grew hN.2)) 0 rfl rfl 4 (by decide) (ht _ q73) (fun _ h9 => h9) rfl d_V_wantedType_152 ?_
                    refine z_callR (va_runS (As := [.int (nI wn), .int (nI (tK (tb k44) &&& tK (tb k58))), .int (nI (tK (tb k58)))]) (rest := []) ⟨hx, hb, hml, hown, hts⟩ (c_V_marksOf l D dT _ wn (tK (tb k44) &&& tK (tb k58)) (tK (tb k58)) (by omega) (and_8 (tK_lt _)) (tK_lt _)) ⟨callB_of 3 hts (gI gd_up gd_c q59) rfl rfl rfl (ht _ q1) (ht _ q57) hd_V_marksOf ⟨Nat.le_of_ble_eq_true rfl, Nat.le_of_ble_eq_true rfl⟩, ht _ q58⟩ (z_preS hK) rfl rfl hl.1 rfl (lv_room (Nat.le_of_ble_eq_true rfl)) d_V_wantedType_155 ⟨Nat.zero_le _, Nat.zero_le _⟩) (fun v97 hv96 => ?_)
                    subst hv96
                    refine lv_istore (lv' := [(9, .int (nI (mks wn (tK (tb k44) &&& tK (tb k58)) (tK (tb k58))))), (8, .int (nI ((1 + (tP (tb k44))) + (tP (tb k58))))), (7, .int 1), (6, .ref a57), (5, .ref a43), (4, .int 1), (0, .ref vv), (1, .int (nI wn)), (2, .int (nI k44)), (3, .int (nI k58))]) hx hb d_V_wantedType_158 hl (by decide) rfl (fun ls hl => ?_)
                    have hSp := hS
                    refine z_newo (ci := 1) hx hb ht in_Type ty_Type tyk_Type hown (ht _ q55) (ht _ q56) (ht _ q5) hK hS rfl fs_Type (Nat.le_of_ble_eq_true rfl) (Nat.le_of_ble_eq_true rfl) d_V_wantedType_160 (fun ad98 H hqad98 hzad98 oad98 hoad98 hS => ?_)
                    have hgad98 : s.heap.size ≤ ad98 := by rw [hqad98]; exact hSp.1
                    have hAad98 : (fun q => s.heap.size ≤ q) ad98 := hgad98
                    have hgbad98 := Nat.le_trans hN.1 (Nat.le_of_eq hqad98.symm)
                    have hN := hN.grew hzad98 hoad98
                    refine lv_dup hx hb d_V_wantedType_163 rfl ?_
                    refine lv_iload_n hx hb d_V_wantedType_164 rfl (lv_at hl 7 rfl) ?_
                    refine lv_iload_n hx hb d_V_wantedType_165 rfl (lv_at hl 8 rfl) ?_
                    refine lv_iload hx hb d_V_wantedType_166 (lv_at hl 5 rfl) ?_
                    refine lv_if_eq (tgt := 175) hx hb d_V_wantedType_168 (by decide) (fun c99 => absurd c99 (by decide)) (fun _ => ?_)
                    refine lv_iload_n hx hb d_V_wantedType_171 rfl (lv_at hl 9 rfl) ?_
                    refine lv_goto (tgt := 176) hx hb d_V_wantedType_172 (by decide) ?_
                    refine lv_iload hx hb d_V_wantedType_176 (lv_at hl 1 rfl) ?_
                    refine lv_iload hx hb d_V_wantedType_178 (lv_at hl 0 rfl) ?_
                    refine z_callQ (va_runI (As := [.int (nI wn), .int (nI k44), .int (nI k58), .int (nI ((1 + (tP (tb k44))) + (tP (tb k58)))), .int (nI (mks wn (tK (tb k44) &&& tK (tb k58)) (tK (tb k58))))]) (rest := [.ref ad98]) ⟨hx, hb, hml, hown, hts⟩ (c_Type_init l D dT _ ad98 oad98 (nI wn) (nI k44) (nI k58) (nI ((1 + (tP (tb k44))) + (tP (tb k58)))) (nI (mks wn (tK (tb k44) &&& tK (tb k58)) (tK (tb k58))))) ⟨callB_of 5 hts (gI gd_up gd_c q62) rfl rfl rfl (ht _ q5) (ht _ q60) hd_Type_init ⟨Nat.le_of_ble_eq_true rfl, Nat.le_of_ble_eq_true rfl⟩, rfl, ht _ q61⟩ (z_preS hK) rfl rfl hl.1 rfl (lv_room (Nat.le_of_ble_eq_true rfl)) d_V_wantedType_180 ⟨(Nat.le_of_ble_eq_true rfl), (Nat.le_of_ble_eq_true rfl)⟩) hS (fun q9 h9 => by rw [show q9 = ad98 from h9]; exact hAad98) (fun v101 H locs hv100 hz102 hf103 hS => ?_)
                    obtain ⟨rfl, oad98⟩ := hv100
                    have oad98 : va_at D cls (ad98, .inr (1, [.int (nI wn), .int (nI k44), .int (nI k58), .int (nI ((1 + (tP (tb k44))) + (tP (tb k58)))), .int (nI (mks wn (tK (tb k44) &&& tK (tb k58)) (tK (tb k58))))])) H := oad98
                    have hN := hN.call hz102 hf103 (fun x hx h9 => by have h8 : x = ad98 := h9; omega)
                    refine W.eq (g2 := F0 m 183 ls [.ref ad98]) rfl ?_
                    exact z_aretQ hx hb hr hlocks d_V_wantedType_183 (Or.inl ⟨_, rfl⟩) (Or.inr ⟨_, rfl⟩) hS (Nat.le_of_ble_eq_true rfl) (Nat.le_of_ble_eq_true rfl) (Or.inr ⟨ad98, wn, k44, (some k58), rfl, by rw [row_2 htc (by omega) h18 hk44 hk58, if_pos ⟨fun h9 => hmk, by omega⟩], ⟨h10, h18, hk44, Iff.intro (fun h9 => by cases h9) (fun h9 => absurd h9 (by omega)), (fun j hj => by cases hj; exact hk58), show 1 + tP (tb k44) + tP (tb k58) ≤ 200 by omega, fun h9 => hmk⟩, hgad98, by have h8 := oad98; rw [mks_2 (by omega) h18] at h8; exact h8⟩)
                  · have nc95 : ¬ ((1 + (tP (tb k44))) + (tP (tb k58))) ≤ 200 := fun h9 => c95 ((nI_leI (a := ((1 + (tP (tb k44))) + (tP (tb k58)))) (b := 200) (by omega) (by omega)).mpr h9)
                    refine lv_null hx hb d_V_wantedType_136 ?_
                    exact z_aretQ hx hb hr hlocks d_V_wantedType_137 (Or.inl ⟨_, rfl⟩) (Or.inl rfl) hS (Nat.le_of_ble_eq_true rfl) (Nat.le_of_ble_eq_true rfl) (Or.inl ⟨rfl, by rw [row_2 htc (by omega) h18 hk44 hk58, if_neg (fun h9 => absurd h9.2 (by omega))]⟩)
                · rw [if_neg hmk] at hv91
                  subst hv91
                  refine lv_if_ne (tgt := 104) hx hb d_V_wantedType_99 (by decide) (fun c104 => absurd c104 (by decide)) (fun _ => ?_)
                  refine lv_null hx hb d_V_wantedType_102 ?_
                  exact z_aretQ hx hb hr hlocks d_V_wantedType_103 (Or.inl ⟨_, rfl⟩) (Or.inl rfl) hS (Nat.le_of_ble_eq_true rfl) (Nat.le_of_ble_eq_true rfl) (Or.inl ⟨rfl, by rw [row_2 htc (by omega) h18 hk44 hk58, if_neg (fun h9 => hmk (h9.1 (by omega)))]⟩)
    · refine lv_null hx hb d_V_wantedType_12 ?_
      exact z_aretQ hx hb hr hlocks d_V_wantedType_13 (Or.inl ⟨_, rfl⟩) (Or.inl rfl) hS (Nat.le_of_ble_eq_true rfl) (Nat.le_of_ble_eq_true rfl) (Or.inl ⟨rfl, row_w (fun h9 => c2 h9.2)⟩)
