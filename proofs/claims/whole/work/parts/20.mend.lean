abbrev b_M_end : ByteArray := prog_12_method_20_code
abbrev y_M_end : MethodName := ⟨"ValueTreesModel", "end", "(II)I"⟩
abbrev w_M_end : List Cond := .code y_M_end b_M_end 5 (Option.some .int) :: gt
theorem hd_M_end : (y_M_end).cls ≠ "java/lang/invoke/MethodHandle" ∧ (y_M_end).cls ≠ "java/lang/invoke/VarHandle" ∧ (parseMethodDescriptor (y_M_end).desc).map (fun d => d.parameters.length) = some 2 := by decide +kernel
theorem d_M_end_0 : decode b_M_end 0 = .ok (.aload_n 0, 1) := by decide +kernel
theorem d_M_end_1 : decode b_M_end 1 = .ok (.getfield 7, 3) := by decide +kernel
theorem d_M_end_4 : decode b_M_end 4 = .ok (.iload_n 1, 1) := by decide +kernel
theorem d_M_end_5 : decode b_M_end 5 = .ok (.iaload, 1) := by decide +kernel
theorem d_M_end_6 : decode b_M_end 6 = .ok (.istore_n 3, 1) := by decide +kernel
theorem d_M_end_7 : decode b_M_end 7 = .ok (.iload_n 3, 1) := by decide +kernel
theorem d_M_end_8 : decode b_M_end 8 = .ok (.ifCond .eq 8, 3) := by decide +kernel
theorem d_M_end_11 : decode b_M_end 11 = .ok (.iload_n 3, 1) := by decide +kernel
theorem d_M_end_12 : decode b_M_end 12 = .ok (.iconst 1, 1) := by decide +kernel
theorem d_M_end_13 : decode b_M_end 13 = .ok (.if_icmp .ne 7, 3) := by decide +kernel
theorem d_M_end_16 : decode b_M_end 16 = .ok (.iload_n 2, 1) := by decide +kernel
theorem d_M_end_17 : decode b_M_end 17 = .ok (.iconst 2, 1) := by decide +kernel
theorem d_M_end_18 : decode b_M_end 18 = .ok (.iadd, 1) := by decide +kernel
theorem d_M_end_19 : decode b_M_end 19 = .ok (.ireturn, 1) := by decide +kernel
theorem d_M_end_20 : decode b_M_end 20 = .ok (.iload_n 3, 1) := by decide +kernel
theorem d_M_end_21 : decode b_M_end 21 = .ok (.invokestatic 75, 3) := by decide +kernel
theorem d_M_end_24 : decode b_M_end 24 = .ok (.ifCond .eq 30, 3) := by decide +kernel
theorem d_M_end_27 : decode b_M_end 27 = .ok (.iload_n 2, 1) := by decide +kernel
theorem d_M_end_28 : decode b_M_end 28 = .ok (.iconst 1, 1) := by decide +kernel
theorem d_M_end_29 : decode b_M_end 29 = .ok (.iadd, 1) := by decide +kernel
theorem d_M_end_30 : decode b_M_end 30 = .ok (.istore 4, 2) := by decide +kernel
theorem d_M_end_32 : decode b_M_end 32 = .ok (.aload_n 0, 1) := by decide +kernel
theorem d_M_end_33 : decode b_M_end 33 = .ok (.iload 4, 2) := by decide +kernel
theorem d_M_end_35 : decode b_M_end 35 = .ok (.invokevirtual 72, 3) := by decide +kernel
theorem d_M_end_38 : decode b_M_end 38 = .ok (.bipush 127, 2) := by decide +kernel
theorem d_M_end_40 : decode b_M_end 40 = .ok (.if_icmp .le 9, 3) := by decide +kernel
theorem d_M_end_43 : decode b_M_end 43 = .ok (.iinc 4 1, 3) := by decide +kernel
theorem d_M_end_46 : decode b_M_end 46 = .ok (.goto (-14), 3) := by decide +kernel
theorem d_M_end_49 : decode b_M_end 49 = .ok (.iload 4, 2) := by decide +kernel
theorem d_M_end_51 : decode b_M_end 51 = .ok (.iconst 1, 1) := by decide +kernel
theorem d_M_end_52 : decode b_M_end 52 = .ok (.iadd, 1) := by decide +kernel
theorem d_M_end_53 : decode b_M_end 53 = .ok (.ireturn, 1) := by decide +kernel
theorem d_M_end_54 : decode b_M_end 54 = .ok (.iload_n 3, 1) := by decide +kernel
theorem d_M_end_55 : decode b_M_end 55 = .ok (.bipush 18, 2) := by decide +kernel
theorem d_M_end_57 : decode b_M_end 57 = .ok (.if_icmp .ne 27, 3) := by decide +kernel
theorem d_M_end_60 : decode b_M_end 60 = .ok (.aload_n 0, 1) := by decide +kernel
theorem d_M_end_61 : decode b_M_end 61 = .ok (.aload_n 0, 1) := by decide +kernel
theorem d_M_end_62 : decode b_M_end 62 = .ok (.getfield 16, 3) := by decide +kernel
theorem d_M_end_65 : decode b_M_end 65 = .ok (.iload_n 1, 1) := by decide +kernel
theorem d_M_end_66 : decode b_M_end 66 = .ok (.iaload, 1) := by decide +kernel
theorem d_M_end_67 : decode b_M_end 67 = .ok (.aload_n 0, 1) := by decide +kernel
theorem d_M_end_68 : decode b_M_end 68 = .ok (.aload_n 0, 1) := by decide +kernel
theorem d_M_end_69 : decode b_M_end 69 = .ok (.getfield 13, 3) := by decide +kernel
theorem d_M_end_72 : decode b_M_end 72 = .ok (.iload_n 1, 1) := by decide +kernel
theorem d_M_end_73 : decode b_M_end 73 = .ok (.iaload, 1) := by decide +kernel
theorem d_M_end_74 : decode b_M_end 74 = .ok (.iload_n 2, 1) := by decide +kernel
theorem d_M_end_75 : decode b_M_end 75 = .ok (.iconst 2, 1) := by decide +kernel
theorem d_M_end_76 : decode b_M_end 76 = .ok (.iadd, 1) := by decide +kernel
theorem d_M_end_77 : decode b_M_end 77 = .ok (.invokevirtual 78, 3) := by decide +kernel
theorem d_M_end_80 : decode b_M_end 80 = .ok (.invokevirtual 78, 3) := by decide +kernel
theorem d_M_end_83 : decode b_M_end 83 = .ok (.ireturn, 1) := by decide +kernel
theorem d_M_end_84 : decode b_M_end 84 = .ok (.iload_n 3, 1) := by decide +kernel
theorem d_M_end_85 : decode b_M_end 85 = .ok (.bipush 10, 2) := by decide +kernel
theorem d_M_end_87 : decode b_M_end 87 = .ok (.if_icmp .ne 35, 3) := by decide +kernel
theorem d_M_end_90 : decode b_M_end 90 = .ok (.aload_n 0, 1) := by decide +kernel
theorem d_M_end_91 : decode b_M_end 91 = .ok (.iload_n 2, 1) := by decide +kernel
theorem d_M_end_92 : decode b_M_end 92 = .ok (.iconst 1, 1) := by decide +kernel
theorem d_M_end_93 : decode b_M_end 93 = .ok (.iadd, 1) := by decide +kernel
theorem d_M_end_94 : decode b_M_end 94 = .ok (.invokevirtual 72, 3) := by decide +kernel
theorem d_M_end_97 : decode b_M_end 97 = .ok (.bipush 6, 2) := by decide +kernel
theorem d_M_end_99 : decode b_M_end 99 = .ok (.if_icmp .ne 9, 3) := by decide +kernel
theorem d_M_end_102 : decode b_M_end 102 = .ok (.iload_n 2, 1) := by decide +kernel
theorem d_M_end_103 : decode b_M_end 103 = .ok (.iconst 2, 1) := by decide +kernel
theorem d_M_end_104 : decode b_M_end 104 = .ok (.iadd, 1) := by decide +kernel
theorem d_M_end_105 : decode b_M_end 105 = .ok (.goto 16, 3) := by decide +kernel
theorem d_M_end_108 : decode b_M_end 108 = .ok (.aload_n 0, 1) := by decide +kernel
theorem d_M_end_109 : decode b_M_end 109 = .ok (.aload_n 0, 1) := by decide +kernel
theorem d_M_end_110 : decode b_M_end 110 = .ok (.getfield 13, 3) := by decide +kernel
theorem d_M_end_113 : decode b_M_end 113 = .ok (.iload_n 1, 1) := by decide +kernel
theorem d_M_end_114 : decode b_M_end 114 = .ok (.iaload, 1) := by decide +kernel
theorem d_M_end_115 : decode b_M_end 115 = .ok (.iload_n 2, 1) := by decide +kernel
theorem d_M_end_116 : decode b_M_end 116 = .ok (.iconst 2, 1) := by decide +kernel
theorem d_M_end_117 : decode b_M_end 117 = .ok (.iadd, 1) := by decide +kernel
theorem d_M_end_118 : decode b_M_end 118 = .ok (.invokevirtual 78, 3) := by decide +kernel
theorem d_M_end_121 : decode b_M_end 121 = .ok (.ireturn, 1) := by decide +kernel
theorem d_M_end_122 : decode b_M_end 122 = .ok (.iload_n 3, 1) := by decide +kernel
theorem d_M_end_123 : decode b_M_end 123 = .ok (.bipush 14, 2) := by decide +kernel
theorem d_M_end_125 : decode b_M_end 125 = .ok (.if_icmp .ne 37, 3) := by decide +kernel
theorem d_M_end_128 : decode b_M_end 128 = .ok (.aload_n 0, 1) := by decide +kernel
theorem d_M_end_129 : decode b_M_end 129 = .ok (.aload_n 0, 1) := by decide +kernel
theorem d_M_end_130 : decode b_M_end 130 = .ok (.iload_n 2, 1) := by decide +kernel
theorem d_M_end_131 : decode b_M_end 131 = .ok (.iconst 1, 1) := by decide +kernel
theorem d_M_end_132 : decode b_M_end 132 = .ok (.iadd, 1) := by decide +kernel
theorem d_M_end_133 : decode b_M_end 133 = .ok (.invokevirtual 72, 3) := by decide +kernel
theorem d_M_end_136 : decode b_M_end 136 = .ok (.iconst 5, 1) := by decide +kernel
theorem d_M_end_137 : decode b_M_end 137 = .ok (.if_icmp .ne 12, 3) := by decide +kernel
theorem d_M_end_140 : decode b_M_end 140 = .ok (.aload_n 0, 1) := by decide +kernel
theorem d_M_end_141 : decode b_M_end 141 = .ok (.getfield 13, 3) := by decide +kernel
theorem d_M_end_144 : decode b_M_end 144 = .ok (.iload_n 1, 1) := by decide +kernel
theorem d_M_end_145 : decode b_M_end 145 = .ok (.iaload, 1) := by decide +kernel
theorem d_M_end_146 : decode b_M_end 146 = .ok (.goto 9, 3) := by decide +kernel
theorem d_M_end_149 : decode b_M_end 149 = .ok (.aload_n 0, 1) := by decide +kernel
theorem d_M_end_150 : decode b_M_end 150 = .ok (.getfield 16, 3) := by decide +kernel
theorem d_M_end_153 : decode b_M_end 153 = .ok (.iload_n 1, 1) := by decide +kernel
theorem d_M_end_154 : decode b_M_end 154 = .ok (.iaload, 1) := by decide +kernel
theorem d_M_end_155 : decode b_M_end 155 = .ok (.iload_n 2, 1) := by decide +kernel
theorem d_M_end_156 : decode b_M_end 156 = .ok (.iconst 2, 1) := by decide +kernel
theorem d_M_end_157 : decode b_M_end 157 = .ok (.iadd, 1) := by decide +kernel
theorem d_M_end_158 : decode b_M_end 158 = .ok (.invokevirtual 78, 3) := by decide +kernel
theorem d_M_end_161 : decode b_M_end 161 = .ok (.ireturn, 1) := by decide +kernel
theorem d_M_end_162 : decode b_M_end 162 = .ok (.iload_n 2, 1) := by decide +kernel
theorem d_M_end_163 : decode b_M_end 163 = .ok (.iconst 5, 1) := by decide +kernel
theorem d_M_end_164 : decode b_M_end 164 = .ok (.iadd, 1) := by decide +kernel
theorem d_M_end_165 : decode b_M_end 165 = .ok (.aload_n 0, 1) := by decide +kernel
theorem d_M_end_166 : decode b_M_end 166 = .ok (.iload_n 2, 1) := by decide +kernel
theorem d_M_end_167 : decode b_M_end 167 = .ok (.iconst 1, 1) := by decide +kernel
theorem d_M_end_168 : decode b_M_end 168 = .ok (.iadd, 1) := by decide +kernel
theorem d_M_end_169 : decode b_M_end 169 = .ok (.invokevirtual 82, 3) := by decide +kernel
theorem d_M_end_172 : decode b_M_end 172 = .ok (.iadd, 1) := by decide +kernel
theorem d_M_end_173 : decode b_M_end 173 = .ok (.ireturn, 1) := by decide +kernel
set_option maxHeartbeats 4000000 in
set_option maxRecDepth 100000 in
theorem c_M_end (l : Launch) (D : va_G) (dT : Nat → ClassId) (H : Heap) (mm : Nat → Nat) (wd lf rt : Nat → Int32) (tc : Nat) (ty : Nat → Int32) (F : Nat → Nat) (sz : Nat → Int32) (Wk : Nat → Nat) (wz : Nat) (dg : Nat → Nat) (dc : Nat) (sh : Nat → Nat) (hM : mAt D dT mm wd lf rt tc ty F sz Wk wz dg dc sh H) (hF : ∀ k, F k < 256) (tb : Nat → TR) (hO : tOK tb tc) (hT : mT tb tc wd lf rt) : ∀ (d : Nat) (t : Nat) (v : VT) (a : Nat), t < tc → tP (tb t) ≤ d → wty tb v 0 t → fAt F a (cs v) → a + (cs v).length ≤ 2560 → Met l y_M_end w_M_end ({ frames := d + 2, cells := 0, slots := 0, locals := 24 * d + 42 }) (z_P D dT [.ref (mm 0), .int (nI t), .int (nI a)] H) (z_R (fun r9 => r9 = .int (nI (a + (cs v).length)))) 0 0 (fun _ => False) := by
  intro d
  induction d with
  | zero =>
    intro t v a htl hd hw hf ha
    obtain ⟨r1, r2, r2b, r3, r4, r5, r6, r7, r8, r9, r10, r11, r12⟩ := hO.2.2 t htl
    omega
  | succ d ih =>
    intro t v a htl hd hw hf ha
    refine Met.ofW (cc := b_M_end) (maxL := 5) (ret := (Option.some .int)) (by decide) rfl ?_
    intro p e s m args below meth c s₁ B hml hv
    obtain ⟨rfl, rfl, hK⟩ := hv
    have hx := B.exec
    have hb := B.bytes
    have hr := B.returns
    have hts := atoms_spec (ws := w_M_end) B.pre
    have ht : ∀ w9 ∈ gt, w9.before [.ref (mm 0), .int (nI t), .int (nI a)].toArray s = true := fun w9 h => hts w9 (List.mem_cons_of_mem _ h)
    have hown : s.vm.findClass "ValueTreesModel" = some m.cls := findClass_of_methodNamed B.named
    have hlocks := B.notSynchronized
    have hl := lv_entry ([.ref (mm 0), .int (nI t), .int (nI a)]) (n := 5) (Nat.le_of_ble_eq_true rfl)
    rw [lg_entry_eq]
    generalize (lg_sl ([.ref (mm 0), .int (nI t), .int (nI a)]) ++ List.replicate (5 - (lg_sl ([.ref (mm 0), .int (nI t), .int (nI a)])).length) Slot.unset).toArray = ls at hl ⊢
    have hl : lv_has ls 5 [(0, .ref (mm 0)), (1, .int (nI t)), (2, .int (nI a))] := hl
    obtain ⟨e1, e2, e3⟩ := hT t htl
    obtain ⟨r1, -⟩ := hO.2.2 t htl
    have htc := hO.1
    obtain ⟨c9, rfl, hc⟩ := wty_pow hw
    cases c9 with
    | num z =>
      obtain ⟨-, hwd, -⟩ := hc
      rw [f_num] at hf
      rw [l_num, nser_len] at ha
      rw [l_num, nser_len]
      obtain ⟨-, hf⟩ := hf
      refine lv_aload_n hx hb d_M_end_0 rfl (lv_at hl 0 rfl) ?_
      refine va_get (D := D) (ci := 10) (v := .ref (mm 1)) (C := "ValueTreesModel") (T := T_M) (N := 12) hx hb ht in_M hown hK.1 hM.1 0 rfl rfl 0 (by decide) (ht _ q539) (fun _ h9 => h9) rfl d_M_end_1 ?_
      refine lv_iload_n hx hb d_M_end_4 rfl (lv_at hl 1 rfl) ?_
      refine z_iald hx hb hK (hM.1 1 _ rfl) t rfl (by omega) (by decide) d_M_end_5 ?_
      rw [e1]
      refine lv_istore_n (lv' := [(3, .int (nI (tW (tb t)))), (0, .ref (mm 0)), (1, .int (nI t)), (2, .int (nI a))]) hx hb d_M_end_6 rfl hl (by decide) rfl (fun ls hl => ?_)
      refine lv_iload_n hx hb d_M_end_7 rfl (lv_at hl 0 rfl) ?_
      refine lv_if_eq (tgt := 16) hx hb d_M_end_8 (by decide) (fun c1 => absurd ((nI_eq (a := (tW (tb t))) (b := 0) (by omega) (by omega)).mp c1) (by omega)) (fun c1 => ?_)
      refine lv_iload_n hx hb d_M_end_11 rfl (lv_at hl 0 rfl) ?_
      refine lv_iconst (v := 1) hx hb d_M_end_12 (by decide) ?_
      refine lv_icmp_ne (tgt := 20) hx hb d_M_end_13 (by decide) (fun c2 => ?_) (fun c2 => absurd ((nI_eq (a := (tW (tb t))) (b := 1) (by omega) (by omega)).mp c2) (by omega))
      refine lv_iload_n hx hb d_M_end_20 rfl (lv_at hl 0 rfl) ?_
      refine z_callR (va_runS (As := [.int (nI (tW (tb t)))]) (rest := []) ⟨hx, hb, hml, hown, hts⟩ (c_M_isNumber l D dT _ (nI (tW (tb t)))) ⟨callB_of 1 hts (gI gd_up gd_c q622) rfl rfl rfl (ht _ q10) (ht _ q620) hd_M_isNumber ⟨by show 0 + 1 ≤ d + 1 + 2; omega, by show 8 + (1 + 11) + 0 ≤ 24 * (d + 1) + 42; omega⟩, ht _ q621⟩ (z_preS hK) rfl rfl hl.1 rfl (lv_room (Nat.le_of_ble_eq_true rfl)) d_M_end_21 ⟨Nat.zero_le _, Nat.zero_le _⟩) (fun v4 hv3 => ?_)
      have hv3 : v4 = .int (if isNum (nI (tW (tb t))) then 1 else 0) := hv3
      rw [if_pos ((isNum_nI (by omega)).mpr (by omega))] at hv3
      subst hv3
      refine lv_if_eq (tgt := 54) hx hb d_M_end_24 (by decide) (fun c6 => absurd c6 (by decide)) (fun _ => ?_)
      refine lv_iload_n hx hb d_M_end_27 rfl (lv_at hl 3 rfl) ?_
      refine lv_iconst (v := 1) hx hb d_M_end_28 (by decide) ?_
      refine lv_iadd hx hb d_M_end_29 ?_
      rw [show (((nI a) + 1) : Int32) = nI (a + 1) from nI_add a 1]
      refine lv_istore (lv' := [(4, .int (nI (a + 1))), (3, .int (nI (tW (tb t)))), (0, .ref (mm 0)), (1, .int (nI t)), (2, .int (nI a))]) hx hb d_M_end_30 hl (by decide) rfl (fun ls hl => ?_)
      have loop7 : ∀ (n329 : Nat) (j : Nat), (j ≤ nb z.natAbs / 7) → nb z.natAbs / 7 - j < n329 → ∀ (ls : Array Slot), lv_has ls 5 [(4, .int (nI (a + 1 + j))), (0, .ref (mm 0)), (1, .int (nI t)), (2, .int (nI a)), (3, .int (nI (tW (tb t))))] → W p l e (headSpec w_M_end ({ frames := d + 1 + 2, cells := 0, slots := 0, locals := 24 * (d + 1) + 42 })).room s m [.ref (mm 0), .int (nI t), .int (nI a)].toArray below meth c s.heap [] 0 0 (MQ below (z_R (fun r9 => r9 = .int (nI (a + (1 + (1 + nb z.natAbs / 7)))))) [.ref (mm 0), .int (nI t), .int (nI a)].toArray s 0 0 (fun _ => False)) (F0 m 32 ls []) := by
        intro n329
        induction n329 with
        | zero =>
          intro j hj h329
          exact absurd h329 (Nat.not_lt_zero _)
        | succ n329 ih32 =>
          intro j hj h329  ls hl
          have hfj := hf j (by rw [nser_len]; omega)
          have hFj := hF (a + 1 + j)
          refine lv_aload_n hx hb d_M_end_32 rfl (lv_at hl 1 rfl) ?_
          refine lv_iload hx hb d_M_end_33 (lv_at hl 0 rfl) ?_
          refine z_callR (va_runV (C := "ValueTreesModel") (As := [.int (nI (a + 1 + j))]) (rest := []) ⟨hx, hb, hml, hown, hts⟩ (c_M_byteOf l D dT _ mm wd lf rt tc ty F sz Wk wz dg dc sh hM (a + 1 + j) (by omega) (hF _)) ⟨callB_of 1 hts (gI gd_up gd_c q670) rfl rfl rfl (ht _ q10) (ht _ q667) hd_M_byteOf ⟨by show 0 + 1 ≤ d + 1 + 2; omega, by show 8 + (2 + 11) + 0 ≤ 24 * (d + 1) + 42; omega⟩, ht _ q669, ht _ qs29⟩ (z_preV hK (va_recv hK.1 hM.1 (ci := 10) (q0 := 0) rfl rfl)) rfl rfl hl.1 rfl (lv_room (Nat.le_of_ble_eq_true rfl)) d_M_end_35 ⟨Nat.zero_le _, Nat.zero_le _⟩) (fun v9 hv8 => ?_)
          subst hv8
          refine lv_bipush (v := 127) hx hb d_M_end_38 (by decide) ?_
          refine lv_icmp_le (tgt := 49) hx hb d_M_end_40 (by decide) (fun c10 => ?_) (fun c10 => ?_)
          · have nc10 : (F (a + 1 + j)) ≤ 127 := (nI_leI (a := (F (a + 1 + j))) (b := 127) (by omega) (by omega)).mp c10
            have hje : j = nb z.natAbs / 7 := by
              rcases Nat.lt_or_ge j (nb z.natAbs / 7) with q | q
              · have := (nser_hi q).1; omega
              · omega
            refine lv_iload hx hb d_M_end_49 (lv_at hl 0 rfl) ?_
            refine lv_iconst (v := 1) hx hb d_M_end_51 (by decide) ?_
            refine lv_iadd hx hb d_M_end_52 ?_
            rw [show (((nI (a + 1 + j)) + 1) : Int32) = nI ((a + 1 + j) + 1) from nI_add (a + 1 + j) 1]
            exact z_iretR hx hb hr hlocks d_M_end_53 (by first | rfl | (congr 2; omega))
          · have nc10 : ¬ (F (a + 1 + j)) ≤ 127 := fun h9 => c10 ((nI_leI (a := (F (a + 1 + j))) (b := 127) (by omega) (by omega)).mpr h9)
            have hjl : j < nb z.natAbs / 7 := by
              rcases Nat.lt_or_ge j (nb z.natAbs / 7) with q | q
              · exact q
              · have e9 : j = nb z.natAbs / 7 := by omega
                have h9 := nser_lo z
                rw [← e9] at h9; omega
            refine lv_iinc (v := (nI (a + 1 + (j + 1)))) (lv' := [(4, .int (nI (a + 1 + (j + 1)))), (0, .ref (mm 0)), (1, .int (nI t)), (2, .int (nI a)), (3, .int (nI (tW (tb t))))]) hx hb d_M_end_43 hl (k := 0) rfl (nI_1 (a + 1 + j)) (by decide) rfl (fun ls hl => ?_)
            refine lv_goto (tgt := 32) hx hb d_M_end_46 (by decide) ?_
            exact ih32 (j + 1) (by omega) (by omega)  ls (lv_sub hl [0, 1, 2, 3, 4] rfl)
      exact loop7 (nb z.natAbs / 7 + 1) 0 (by omega) (by omega)  ls (lv_sub hl [0, 2, 3, 4, 1] rfl)
    | natCast k =>
      obtain ⟨-, hwd, hk8, -⟩ := hc
      rw [f_row] at hf
      rw [l_row] at ha
      rw [l_row]
      refine lv_aload_n hx hb d_M_end_0 rfl (lv_at hl 0 rfl) ?_
      refine va_get (D := D) (ci := 10) (v := .ref (mm 1)) (C := "ValueTreesModel") (T := T_M) (N := 12) hx hb ht in_M hown hK.1 hM.1 0 rfl rfl 0 (by decide) (ht _ q539) (fun _ h9 => h9) rfl d_M_end_1 ?_
      refine lv_iload_n hx hb d_M_end_4 rfl (lv_at hl 1 rfl) ?_
      refine z_iald hx hb hK (hM.1 1 _ rfl) t rfl (by omega) (by decide) d_M_end_5 ?_
      rw [e1]
      refine lv_istore_n (lv' := [(3, .int (nI (tW (tb t)))), (0, .ref (mm 0)), (1, .int (nI t)), (2, .int (nI a))]) hx hb d_M_end_6 rfl hl (by decide) rfl (fun ls hl => ?_)
      refine lv_iload_n hx hb d_M_end_7 rfl (lv_at hl 0 rfl) ?_
      refine lv_if_eq (tgt := 16) hx hb d_M_end_8 (by decide) (fun c11 => absurd ((nI_eq (a := (tW (tb t))) (b := 0) (by omega) (by omega)).mp c11) (by omega)) (fun c11 => ?_)
      refine lv_iload_n hx hb d_M_end_11 rfl (lv_at hl 0 rfl) ?_
      refine lv_iconst (v := 1) hx hb d_M_end_12 (by decide) ?_
      refine lv_icmp_ne (tgt := 20) hx hb d_M_end_13 (by decide) (fun c12 => ?_) (fun c12 => absurd ((nI_eq (a := (tW (tb t))) (b := 1) (by omega) (by omega)).mp c12) (by omega))
      refine lv_iload_n hx hb d_M_end_20 rfl (lv_at hl 0 rfl) ?_
      refine z_callR (va_runS (As := [.int (nI (tW (tb t)))]) (rest := []) ⟨hx, hb, hml, hown, hts⟩ (c_M_isNumber l D dT _ (nI (tW (tb t)))) ⟨callB_of 1 hts (gI gd_up gd_c q622) rfl rfl rfl (ht _ q10) (ht _ q620) hd_M_isNumber ⟨by show 0 + 1 ≤ d + 1 + 2; omega, by show 8 + (1 + 11) + 0 ≤ 24 * (d + 1) + 42; omega⟩, ht _ q621⟩ (z_preS hK) rfl rfl hl.1 rfl (lv_room (Nat.le_of_ble_eq_true rfl)) d_M_end_21 ⟨Nat.zero_le _, Nat.zero_le _⟩) (fun v14 hv13 => ?_)
      have hv13 : v14 = .int (if isNum (nI (tW (tb t))) then 1 else 0) := hv13
      rw [if_neg (fun h9 => absurd ((isNum_nI (by omega)).mp h9) (by omega))] at hv13
      subst hv13
      refine lv_if_eq (tgt := 54) hx hb d_M_end_24 (by decide) (fun _ => ?_) (fun c16 => absurd c16 (by decide))
      refine lv_iload_n hx hb d_M_end_54 rfl (lv_at hl 0 rfl) ?_
      refine lv_bipush (v := 18) hx hb d_M_end_55 (by decide) ?_
      refine lv_icmp_ne (tgt := 84) hx hb d_M_end_57 (by decide) (fun c17 => ?_) (fun c17 => absurd ((nI_eq (a := (tW (tb t))) (b := 18) (by omega) (by omega)).mp c17) (by omega))
      refine lv_iload_n hx hb d_M_end_84 rfl (lv_at hl 0 rfl) ?_
      refine lv_bipush (v := 10) hx hb d_M_end_85 (by decide) ?_
      refine lv_icmp_ne (tgt := 122) hx hb d_M_end_87 (by decide) (fun c18 => ?_) (fun c18 => absurd ((nI_eq (a := (tW (tb t))) (b := 10) (by omega) (by omega)).mp c18) (by omega))
      refine lv_iload_n hx hb d_M_end_122 rfl (lv_at hl 0 rfl) ?_
      refine lv_bipush (v := 14) hx hb d_M_end_123 (by decide) ?_
      refine lv_icmp_ne (tgt := 162) hx hb d_M_end_125 (by decide) (fun c19 => ?_) (fun c19 => absurd ((nI_eq (a := (tW (tb t))) (b := 14) (by omega) (by omega)).mp c19) (by omega))
      refine lv_iload_n hx hb d_M_end_162 rfl (lv_at hl 3 rfl) ?_
      refine lv_iconst (v := 5) hx hb d_M_end_163 (by decide) ?_
      refine lv_iadd hx hb d_M_end_164 ?_
      rw [show (((nI a) + 5) : Int32) = nI (a + 5) from nI_add a 5]
      refine lv_aload_n hx hb d_M_end_165 rfl (lv_at hl 1 rfl) ?_
      refine lv_iload_n hx hb d_M_end_166 rfl (lv_at hl 3 rfl) ?_
      refine lv_iconst (v := 1) hx hb d_M_end_167 (by decide) ?_
      refine lv_iadd hx hb d_M_end_168 ?_
      rw [show (((nI a) + 1) : Int32) = nI (a + 1) from nI_add a 1]
      refine z_callR (va_runV (C := "ValueTreesModel") (As := [.int (nI (a + 1))]) (rest := [.int (nI (a + 5))]) ⟨hx, hb, hml, hown, hts⟩ (c_M_sizeAt l D dT _ mm wd lf rt tc ty F sz Wk wz dg dc sh hM hF (a + 1) (k % 16) (by omega) (by omega) hf.2.1) ⟨callB_of 1 hts (gI gd_up gd_c q758) rfl rfl rfl (ht _ q10) (ht _ q755) hd_M_sizeAt ⟨by show 1 + 1 ≤ d + 1 + 2; omega, by show 8 + (2 + 11) + 21 ≤ 24 * (d + 1) + 42; omega⟩, ht _ q757, ht _ qs42⟩ (z_preV hK (va_recv hK.1 hM.1 (ci := 10) (q0 := 0) rfl rfl)) rfl rfl hl.1 rfl (lv_room (Nat.le_of_ble_eq_true rfl)) d_M_end_169 ⟨Nat.zero_le _, Nat.zero_le _⟩) (fun v21 hv20 => ?_)
      subst hv20
      refine lv_iadd hx hb d_M_end_172 ?_
      rw [show (((nI (a + 5)) + (nI (k % 16))) : Int32) = nI ((a + 5) + (k % 16)) from nI_add (a + 5) (k % 16)]
      exact z_iretR hx hb hr hlocks d_M_end_173 (by first | rfl | (congr 2; omega))
    | intCast k =>
      have hwd : tW (tb t) = 11 := by simp only [wty] at hc; omega
      rw [f_nil] at hf
      rw [l_nil] at ha
      rw [l_nil]
      refine lv_aload_n hx hb d_M_end_0 rfl (lv_at hl 0 rfl) ?_
      refine va_get (D := D) (ci := 10) (v := .ref (mm 1)) (C := "ValueTreesModel") (T := T_M) (N := 12) hx hb ht in_M hown hK.1 hM.1 0 rfl rfl 0 (by decide) (ht _ q539) (fun _ h9 => h9) rfl d_M_end_1 ?_
      refine lv_iload_n hx hb d_M_end_4 rfl (lv_at hl 1 rfl) ?_
      refine z_iald hx hb hK (hM.1 1 _ rfl) t rfl (by omega) (by decide) d_M_end_5 ?_
      rw [e1]
      refine lv_istore_n (lv' := [(3, .int (nI (tW (tb t)))), (0, .ref (mm 0)), (1, .int (nI t)), (2, .int (nI a))]) hx hb d_M_end_6 rfl hl (by decide) rfl (fun ls hl => ?_)
      refine lv_iload_n hx hb d_M_end_7 rfl (lv_at hl 0 rfl) ?_
      refine lv_if_eq (tgt := 16) hx hb d_M_end_8 (by decide) (fun c22 => absurd ((nI_eq (a := (tW (tb t))) (b := 0) (by omega) (by omega)).mp c22) (by omega)) (fun c22 => ?_)
      refine lv_iload_n hx hb d_M_end_11 rfl (lv_at hl 0 rfl) ?_
      refine lv_iconst (v := 1) hx hb d_M_end_12 (by decide) ?_
      refine lv_icmp_ne (tgt := 20) hx hb d_M_end_13 (by decide) (fun c23 => ?_) (fun c23 => absurd ((nI_eq (a := (tW (tb t))) (b := 1) (by omega) (by omega)).mp c23) (by omega))
      refine lv_iload_n hx hb d_M_end_20 rfl (lv_at hl 0 rfl) ?_
      refine z_callR (va_runS (As := [.int (nI (tW (tb t)))]) (rest := []) ⟨hx, hb, hml, hown, hts⟩ (c_M_isNumber l D dT _ (nI (tW (tb t)))) ⟨callB_of 1 hts (gI gd_up gd_c q622) rfl rfl rfl (ht _ q10) (ht _ q620) hd_M_isNumber ⟨by show 0 + 1 ≤ d + 1 + 2; omega, by show 8 + (1 + 11) + 0 ≤ 24 * (d + 1) + 42; omega⟩, ht _ q621⟩ (z_preS hK) rfl rfl hl.1 rfl (lv_room (Nat.le_of_ble_eq_true rfl)) d_M_end_21 ⟨Nat.zero_le _, Nat.zero_le _⟩) (fun v25 hv24 => ?_)
      have hv24 : v25 = .int (if isNum (nI (tW (tb t))) then 1 else 0) := hv24
      rw [if_neg (fun h9 => absurd ((isNum_nI (by omega)).mp h9) (by omega))] at hv24
      subst hv24
      refine lv_if_eq (tgt := 54) hx hb d_M_end_24 (by decide) (fun _ => ?_) (fun c27 => absurd c27 (by decide))
      refine lv_iload_n hx hb d_M_end_54 rfl (lv_at hl 0 rfl) ?_
      refine lv_bipush (v := 18) hx hb d_M_end_55 (by decide) ?_
      refine lv_icmp_ne (tgt := 84) hx hb d_M_end_57 (by decide) (fun c28 => ?_) (fun c28 => absurd ((nI_eq (a := (tW (tb t))) (b := 18) (by omega) (by omega)).mp c28) (by omega))
      refine lv_iload_n hx hb d_M_end_84 rfl (lv_at hl 0 rfl) ?_
      refine lv_bipush (v := 10) hx hb d_M_end_85 (by decide) ?_
      refine lv_icmp_ne (tgt := 122) hx hb d_M_end_87 (by decide) (fun c29 => ?_) (fun c29 => absurd ((nI_eq (a := (tW (tb t))) (b := 10) (by omega) (by omega)).mp c29) (by omega))
      refine lv_iload_n hx hb d_M_end_122 rfl (lv_at hl 0 rfl) ?_
      refine lv_bipush (v := 14) hx hb d_M_end_123 (by decide) ?_
      refine lv_icmp_ne (tgt := 162) hx hb d_M_end_125 (by decide) (fun c30 => ?_) (fun c30 => absurd ((nI_eq (a := (tW (tb t))) (b := 14) (by omega) (by omega)).mp c30) (by omega))
      refine lv_iload_n hx hb d_M_end_162 rfl (lv_at hl 3 rfl) ?_
      refine lv_iconst (v := 5) hx hb d_M_end_163 (by decide) ?_
      refine lv_iadd hx hb d_M_end_164 ?_
      rw [show (((nI a) + 5) : Int32) = nI (a + 5) from nI_add a 5]
      refine lv_aload_n hx hb d_M_end_165 rfl (lv_at hl 1 rfl) ?_
      refine lv_iload_n hx hb d_M_end_166 rfl (lv_at hl 3 rfl) ?_
      refine lv_iconst (v := 1) hx hb d_M_end_167 (by decide) ?_
      refine lv_iadd hx hb d_M_end_168 ?_
      rw [show (((nI a) + 1) : Int32) = nI (a + 1) from nI_add a 1]
      refine z_callR (va_runV (C := "ValueTreesModel") (As := [.int (nI (a + 1))]) (rest := [.int (nI (a + 5))]) ⟨hx, hb, hml, hown, hts⟩ (c_M_sizeAt l D dT _ mm wd lf rt tc ty F sz Wk wz dg dc sh hM hF (a + 1) 0 (by omega) (by omega) hf.2.1) ⟨callB_of 1 hts (gI gd_up gd_c q758) rfl rfl rfl (ht _ q10) (ht _ q755) hd_M_sizeAt ⟨by show 1 + 1 ≤ d + 1 + 2; omega, by show 8 + (2 + 11) + 21 ≤ 24 * (d + 1) + 42; omega⟩, ht _ q757, ht _ qs42⟩ (z_preV hK (va_recv hK.1 hM.1 (ci := 10) (q0 := 0) rfl rfl)) rfl rfl hl.1 rfl (lv_room (Nat.le_of_ble_eq_true rfl)) d_M_end_169 ⟨Nat.zero_le _, Nat.zero_le _⟩) (fun v32 hv31 => ?_)
      subst hv31
      refine lv_iadd hx hb d_M_end_172 ?_
      rw [show (((nI (a + 5)) + (nI 0)) : Int32) = nI ((a + 5) + 0) from nI_add (a + 5) 0]
      exact z_iretR hx hb hr hlocks d_M_end_173 (by first | rfl | (congr 2; omega))
    | var i =>
      rw [f_var] at hf
      rw [l_var] at ha
      rw [l_var]
      obtain ⟨-, ⟨hwd, hi⟩ | ⟨hwd, hi⟩ | ⟨hwd, hi⟩⟩ := hc
      · refine lv_aload_n hx hb d_M_end_0 rfl (lv_at hl 0 rfl) ?_
        refine va_get (D := D) (ci := 10) (v := .ref (mm 1)) (C := "ValueTreesModel") (T := T_M) (N := 12) hx hb ht in_M hown hK.1 hM.1 0 rfl rfl 0 (by decide) (ht _ q539) (fun _ h9 => h9) rfl d_M_end_1 ?_
        refine lv_iload_n hx hb d_M_end_4 rfl (lv_at hl 1 rfl) ?_
        refine z_iald hx hb hK (hM.1 1 _ rfl) t rfl (by omega) (by decide) d_M_end_5 ?_
        rw [e1]
        refine lv_istore_n (lv' := [(3, .int (nI (tW (tb t)))), (0, .ref (mm 0)), (1, .int (nI t)), (2, .int (nI a))]) hx hb d_M_end_6 rfl hl (by decide) rfl (fun ls hl => ?_)
        refine lv_iload_n hx hb d_M_end_7 rfl (lv_at hl 0 rfl) ?_
        refine lv_if_eq (tgt := 16) hx hb d_M_end_8 (by decide) (fun c33 => ?_) (fun c33 => absurd ((nI_eq (a := (tW (tb t))) (b := 0) (by omega) (by omega)).mpr (by omega)) c33)
        refine lv_iload_n hx hb d_M_end_16 rfl (lv_at hl 3 rfl) ?_
        refine lv_iconst (v := 2) hx hb d_M_end_17 (by decide) ?_
        refine lv_iadd hx hb d_M_end_18 ?_
        rw [show (((nI a) + 2) : Int32) = nI (a + 2) from nI_add a 2]
        exact z_iretR hx hb hr hlocks d_M_end_19 (by first | rfl | (congr 2; omega))
      · refine lv_aload_n hx hb d_M_end_0 rfl (lv_at hl 0 rfl) ?_
        refine va_get (D := D) (ci := 10) (v := .ref (mm 1)) (C := "ValueTreesModel") (T := T_M) (N := 12) hx hb ht in_M hown hK.1 hM.1 0 rfl rfl 0 (by decide) (ht _ q539) (fun _ h9 => h9) rfl d_M_end_1 ?_
        refine lv_iload_n hx hb d_M_end_4 rfl (lv_at hl 1 rfl) ?_
        refine z_iald hx hb hK (hM.1 1 _ rfl) t rfl (by omega) (by decide) d_M_end_5 ?_
        rw [e1]
        refine lv_istore_n (lv' := [(3, .int (nI (tW (tb t)))), (0, .ref (mm 0)), (1, .int (nI t)), (2, .int (nI a))]) hx hb d_M_end_6 rfl hl (by decide) rfl (fun ls hl => ?_)
        refine lv_iload_n hx hb d_M_end_7 rfl (lv_at hl 0 rfl) ?_
        refine lv_if_eq (tgt := 16) hx hb d_M_end_8 (by decide) (fun c34 => absurd ((nI_eq (a := (tW (tb t))) (b := 0) (by omega) (by omega)).mp c34) (by omega)) (fun c34 => ?_)
        refine lv_iload_n hx hb d_M_end_11 rfl (lv_at hl 0 rfl) ?_
        refine lv_iconst (v := 1) hx hb d_M_end_12 (by decide) ?_
        refine lv_icmp_ne (tgt := 20) hx hb d_M_end_13 (by decide) (fun c35 => absurd ((nI_eq (a := (tW (tb t))) (b := 1) (by omega) (by omega)).mpr (by omega)) c35) (fun c35 => ?_)
        refine lv_iload_n hx hb d_M_end_16 rfl (lv_at hl 3 rfl) ?_
        refine lv_iconst (v := 2) hx hb d_M_end_17 (by decide) ?_
        refine lv_iadd hx hb d_M_end_18 ?_
        rw [show (((nI a) + 2) : Int32) = nI (a + 2) from nI_add a 2]
        exact z_iretR hx hb hr hlocks d_M_end_19 (by first | rfl | (congr 2; omega))
      · subst hi
        have ht1 : ¬ t = 1 := fun h9 => by subst h9; have h8 := (hO.2.2 1 htl).2.2.1 (by decide); omega
        have hf1 : F (a + 1) = 6 := by rw [hf.2]; simp [vtag, ht1]
        obtain ⟨hL, hlt, hlp⟩ := tl_some hO htl (by omega)
        rw [hL] at e2
        have e2 : lf t = nI (lt_ tb t) := e2
        refine lv_aload_n hx hb d_M_end_0 rfl (lv_at hl 0 rfl) ?_
        refine va_get (D := D) (ci := 10) (v := .ref (mm 1)) (C := "ValueTreesModel") (T := T_M) (N := 12) hx hb ht in_M hown hK.1 hM.1 0 rfl rfl 0 (by decide) (ht _ q539) (fun _ h9 => h9) rfl d_M_end_1 ?_
        refine lv_iload_n hx hb d_M_end_4 rfl (lv_at hl 1 rfl) ?_
        refine z_iald hx hb hK (hM.1 1 _ rfl) t rfl (by omega) (by decide) d_M_end_5 ?_
        rw [e1]
        refine lv_istore_n (lv' := [(3, .int (nI (tW (tb t)))), (0, .ref (mm 0)), (1, .int (nI t)), (2, .int (nI a))]) hx hb d_M_end_6 rfl hl (by decide) rfl (fun ls hl => ?_)
        refine lv_iload_n hx hb d_M_end_7 rfl (lv_at hl 0 rfl) ?_
        refine lv_if_eq (tgt := 16) hx hb d_M_end_8 (by decide) (fun c36 => absurd ((nI_eq (a := (tW (tb t))) (b := 0) (by omega) (by omega)).mp c36) (by omega)) (fun c36 => ?_)
        refine lv_iload_n hx hb d_M_end_11 rfl (lv_at hl 0 rfl) ?_
        refine lv_iconst (v := 1) hx hb d_M_end_12 (by decide) ?_
        refine lv_icmp_ne (tgt := 20) hx hb d_M_end_13 (by decide) (fun c37 => ?_) (fun c37 => absurd ((nI_eq (a := (tW (tb t))) (b := 1) (by omega) (by omega)).mp c37) (by omega))
        refine lv_iload_n hx hb d_M_end_20 rfl (lv_at hl 0 rfl) ?_
        refine z_callR (va_runS (As := [.int (nI (tW (tb t)))]) (rest := []) ⟨hx, hb, hml, hown, hts⟩ (c_M_isNumber l D dT _ (nI (tW (tb t)))) ⟨callB_of 1 hts (gI gd_up gd_c q622) rfl rfl rfl (ht _ q10) (ht _ q620) hd_M_isNumber ⟨by show 0 + 1 ≤ d + 1 + 2; omega, by show 8 + (1 + 11) + 0 ≤ 24 * (d + 1) + 42; omega⟩, ht _ q621⟩ (z_preS hK) rfl rfl hl.1 rfl (lv_room (Nat.le_of_ble_eq_true rfl)) d_M_end_21 ⟨Nat.zero_le _, Nat.zero_le _⟩) (fun v39 hv38 => ?_)
        have hv38 : v39 = .int (if isNum (nI (tW (tb t))) then 1 else 0) := hv38
        rw [if_neg (fun h9 => absurd ((isNum_nI (by omega)).mp h9) (by omega))] at hv38
        subst hv38
        refine lv_if_eq (tgt := 54) hx hb d_M_end_24 (by decide) (fun _ => ?_) (fun c41 => absurd c41 (by decide))
        refine lv_iload_n hx hb d_M_end_54 rfl (lv_at hl 0 rfl) ?_
        refine lv_bipush (v := 18) hx hb d_M_end_55 (by decide) ?_
        refine lv_icmp_ne (tgt := 84) hx hb d_M_end_57 (by decide) (fun c42 => ?_) (fun c42 => absurd ((nI_eq (a := (tW (tb t))) (b := 18) (by omega) (by omega)).mp c42) (by omega))
        refine lv_iload_n hx hb d_M_end_84 rfl (lv_at hl 0 rfl) ?_
        refine lv_bipush (v := 10) hx hb d_M_end_85 (by decide) ?_
        refine lv_icmp_ne (tgt := 122) hx hb d_M_end_87 (by decide) (fun c43 => absurd ((nI_eq (a := (tW (tb t))) (b := 10) (by omega) (by omega)).mpr (by omega)) c43) (fun c43 => ?_)
        refine lv_aload_n hx hb d_M_end_90 rfl (lv_at hl 1 rfl) ?_
        refine lv_iload_n hx hb d_M_end_91 rfl (lv_at hl 3 rfl) ?_
        refine lv_iconst (v := 1) hx hb d_M_end_92 (by decide) ?_
        refine lv_iadd hx hb d_M_end_93 ?_
        rw [show (((nI a) + 1) : Int32) = nI (a + 1) from nI_add a 1]
        refine z_callR (va_runV (C := "ValueTreesModel") (As := [.int (nI (a + 1))]) (rest := []) ⟨hx, hb, hml, hown, hts⟩ (c_M_byteOf l D dT _ mm wd lf rt tc ty F sz Wk wz dg dc sh hM (a + 1) (by omega) (hF _)) ⟨callB_of 1 hts (gI gd_up gd_c q670) rfl rfl rfl (ht _ q10) (ht _ q667) hd_M_byteOf ⟨by show 0 + 1 ≤ d + 1 + 2; omega, by show 8 + (2 + 11) + 0 ≤ 24 * (d + 1) + 42; omega⟩, ht _ q669, ht _ qs29⟩ (z_preV hK (va_recv hK.1 hM.1 (ci := 10) (q0 := 0) rfl rfl)) rfl rfl hl.1 rfl (lv_room (Nat.le_of_ble_eq_true rfl)) d_M_end_94 ⟨Nat.zero_le _, Nat.zero_le _⟩) (fun v45 hv44 => ?_)
        subst hv44
        rw [hf1]
        refine lv_bipush (v := 6) hx hb d_M_end_97 (by decide) ?_
        refine lv_icmp_ne (tgt := 108) hx hb d_M_end_99 (by decide) (fun c46 => absurd ((nI_eq (a := 6) (b := 6) (by omega) (by omega)).mpr (by omega)) c46) (fun c46 => ?_)
        refine lv_iload_n hx hb d_M_end_102 rfl (lv_at hl 3 rfl) ?_
        refine lv_iconst (v := 2) hx hb d_M_end_103 (by decide) ?_
        refine lv_iadd hx hb d_M_end_104 ?_
        rw [show (((nI a) + 2) : Int32) = nI (a + 2) from nI_add a 2]
        refine lv_goto (tgt := 121) hx hb d_M_end_105 (by decide) ?_
        exact z_iretR hx hb hr hlocks d_M_end_121 (by first | rfl | (congr 2; omega))
    | neg ch =>
      have hwd : tW (tb t) = 12 ∨ tW (tb t) = 15 ∨ tW (tb t) = 16 := by simp only [wty] at hc; omega
      rw [f_neg] at hf
      rw [l_neg] at ha
      rw [l_neg]
      refine lv_aload_n hx hb d_M_end_0 rfl (lv_at hl 0 rfl) ?_
      refine va_get (D := D) (ci := 10) (v := .ref (mm 1)) (C := "ValueTreesModel") (T := T_M) (N := 12) hx hb ht in_M hown hK.1 hM.1 0 rfl rfl 0 (by decide) (ht _ q539) (fun _ h9 => h9) rfl d_M_end_1 ?_
      refine lv_iload_n hx hb d_M_end_4 rfl (lv_at hl 1 rfl) ?_
      refine z_iald hx hb hK (hM.1 1 _ rfl) t rfl (by omega) (by decide) d_M_end_5 ?_
      rw [e1]
      refine lv_istore_n (lv' := [(3, .int (nI (tW (tb t)))), (0, .ref (mm 0)), (1, .int (nI t)), (2, .int (nI a))]) hx hb d_M_end_6 rfl hl (by decide) rfl (fun ls hl => ?_)
      refine lv_iload_n hx hb d_M_end_7 rfl (lv_at hl 0 rfl) ?_
      refine lv_if_eq (tgt := 16) hx hb d_M_end_8 (by decide) (fun c47 => absurd ((nI_eq (a := (tW (tb t))) (b := 0) (by omega) (by omega)).mp c47) (by omega)) (fun c47 => ?_)
      refine lv_iload_n hx hb d_M_end_11 rfl (lv_at hl 0 rfl) ?_
      refine lv_iconst (v := 1) hx hb d_M_end_12 (by decide) ?_
      refine lv_icmp_ne (tgt := 20) hx hb d_M_end_13 (by decide) (fun c48 => ?_) (fun c48 => absurd ((nI_eq (a := (tW (tb t))) (b := 1) (by omega) (by omega)).mp c48) (by omega))
      refine lv_iload_n hx hb d_M_end_20 rfl (lv_at hl 0 rfl) ?_
      refine z_callR (va_runS (As := [.int (nI (tW (tb t)))]) (rest := []) ⟨hx, hb, hml, hown, hts⟩ (c_M_isNumber l D dT _ (nI (tW (tb t)))) ⟨callB_of 1 hts (gI gd_up gd_c q622) rfl rfl rfl (ht _ q10) (ht _ q620) hd_M_isNumber ⟨by show 0 + 1 ≤ d + 1 + 2; omega, by show 8 + (1 + 11) + 0 ≤ 24 * (d + 1) + 42; omega⟩, ht _ q621⟩ (z_preS hK) rfl rfl hl.1 rfl (lv_room (Nat.le_of_ble_eq_true rfl)) d_M_end_21 ⟨Nat.zero_le _, Nat.zero_le _⟩) (fun v50 hv49 => ?_)
      have hv49 : v50 = .int (if isNum (nI (tW (tb t))) then 1 else 0) := hv49
      rw [if_neg (fun h9 => absurd ((isNum_nI (by omega)).mp h9) (by omega))] at hv49
      subst hv49
      refine lv_if_eq (tgt := 54) hx hb d_M_end_24 (by decide) (fun _ => ?_) (fun c52 => absurd c52 (by decide))
      refine lv_iload_n hx hb d_M_end_54 rfl (lv_at hl 0 rfl) ?_
      refine lv_bipush (v := 18) hx hb d_M_end_55 (by decide) ?_
      refine lv_icmp_ne (tgt := 84) hx hb d_M_end_57 (by decide) (fun c53 => ?_) (fun c53 => absurd ((nI_eq (a := (tW (tb t))) (b := 18) (by omega) (by omega)).mp c53) (by omega))
      refine lv_iload_n hx hb d_M_end_84 rfl (lv_at hl 0 rfl) ?_
      refine lv_bipush (v := 10) hx hb d_M_end_85 (by decide) ?_
      refine lv_icmp_ne (tgt := 122) hx hb d_M_end_87 (by decide) (fun c54 => ?_) (fun c54 => absurd ((nI_eq (a := (tW (tb t))) (b := 10) (by omega) (by omega)).mp c54) (by omega))
      refine lv_iload_n hx hb d_M_end_122 rfl (lv_at hl 0 rfl) ?_
      refine lv_bipush (v := 14) hx hb d_M_end_123 (by decide) ?_
      refine lv_icmp_ne (tgt := 162) hx hb d_M_end_125 (by decide) (fun c55 => ?_) (fun c55 => absurd ((nI_eq (a := (tW (tb t))) (b := 14) (by omega) (by omega)).mp c55) (by omega))
      refine lv_iload_n hx hb d_M_end_162 rfl (lv_at hl 3 rfl) ?_
      refine lv_iconst (v := 5) hx hb d_M_end_163 (by decide) ?_
      refine lv_iadd hx hb d_M_end_164 ?_
      rw [show (((nI a) + 5) : Int32) = nI (a + 5) from nI_add a 5]
      refine lv_aload_n hx hb d_M_end_165 rfl (lv_at hl 1 rfl) ?_
      refine lv_iload_n hx hb d_M_end_166 rfl (lv_at hl 3 rfl) ?_
      refine lv_iconst (v := 1) hx hb d_M_end_167 (by decide) ?_
      refine lv_iadd hx hb d_M_end_168 ?_
      rw [show (((nI a) + 1) : Int32) = nI (a + 1) from nI_add a 1]
      refine z_callR (va_runV (C := "ValueTreesModel") (As := [.int (nI (a + 1))]) (rest := [.int (nI (a + 5))]) ⟨hx, hb, hml, hown, hts⟩ (c_M_sizeAt l D dT _ mm wd lf rt tc ty F sz Wk wz dg dc sh hM hF (a + 1) ((cs ch).length) (by omega) (by omega) hf.2.1) ⟨callB_of 1 hts (gI gd_up gd_c q758) rfl rfl rfl (ht _ q10) (ht _ q755) hd_M_sizeAt ⟨by show 1 + 1 ≤ d + 1 + 2; omega, by show 8 + (2 + 11) + 21 ≤ 24 * (d + 1) + 42; omega⟩, ht _ q757, ht _ qs42⟩ (z_preV hK (va_recv hK.1 hM.1 (ci := 10) (q0 := 0) rfl rfl)) rfl rfl hl.1 rfl (lv_room (Nat.le_of_ble_eq_true rfl)) d_M_end_169 ⟨Nat.zero_le _, Nat.zero_le _⟩) (fun v57 hv56 => ?_)
      subst hv56
      refine lv_iadd hx hb d_M_end_172 ?_
      rw [show (((nI (a + 5)) + (nI ((cs ch).length))) : Int32) = nI ((a + 5) + ((cs ch).length)) from nI_add (a + 5) ((cs ch).length)]
      exact z_iretR hx hb hr hlocks d_M_end_173 (by first | rfl | (congr 2; omega))
    | add x y =>
      obtain ⟨hm, hx9, hy9⟩ := hc
      have hwd : tW (tb t) = 18 := by omega
      rw [f_add] at hf
      rw [l_add] at ha
      rw [l_add]
      obtain ⟨-, -, hfx, hfy⟩ := hf
      obtain ⟨hL, hlt, hlp⟩ := tl_some hO htl (by omega)
      rw [hL] at e2
      have e2 : lf t = nI (lt_ tb t) := e2
      obtain ⟨hRr, hrt, hrp⟩ := tr_some hO htl (by omega)
      rw [hRr] at e3
      have e3 : rt t = nI (rt_ tb t) := e3
      refine lv_aload_n hx hb d_M_end_0 rfl (lv_at hl 0 rfl) ?_
      refine va_get (D := D) (ci := 10) (v := .ref (mm 1)) (C := "ValueTreesModel") (T := T_M) (N := 12) hx hb ht in_M hown hK.1 hM.1 0 rfl rfl 0 (by decide) (ht _ q539) (fun _ h9 => h9) rfl d_M_end_1 ?_
      refine lv_iload_n hx hb d_M_end_4 rfl (lv_at hl 1 rfl) ?_
      refine z_iald hx hb hK (hM.1 1 _ rfl) t rfl (by omega) (by decide) d_M_end_5 ?_
      rw [e1]
      refine lv_istore_n (lv' := [(3, .int (nI (tW (tb t)))), (0, .ref (mm 0)), (1, .int (nI t)), (2, .int (nI a))]) hx hb d_M_end_6 rfl hl (by decide) rfl (fun ls hl => ?_)
      refine lv_iload_n hx hb d_M_end_7 rfl (lv_at hl 0 rfl) ?_
      refine lv_if_eq (tgt := 16) hx hb d_M_end_8 (by decide) (fun c58 => absurd ((nI_eq (a := (tW (tb t))) (b := 0) (by omega) (by omega)).mp c58) (by omega)) (fun c58 => ?_)
      refine lv_iload_n hx hb d_M_end_11 rfl (lv_at hl 0 rfl) ?_
      refine lv_iconst (v := 1) hx hb d_M_end_12 (by decide) ?_
      refine lv_icmp_ne (tgt := 20) hx hb d_M_end_13 (by decide) (fun c59 => ?_) (fun c59 => absurd ((nI_eq (a := (tW (tb t))) (b := 1) (by omega) (by omega)).mp c59) (by omega))
      refine lv_iload_n hx hb d_M_end_20 rfl (lv_at hl 0 rfl) ?_
      refine z_callR (va_runS (As := [.int (nI (tW (tb t)))]) (rest := []) ⟨hx, hb, hml, hown, hts⟩ (c_M_isNumber l D dT _ (nI (tW (tb t)))) ⟨callB_of 1 hts (gI gd_up gd_c q622) rfl rfl rfl (ht _ q10) (ht _ q620) hd_M_isNumber ⟨by show 0 + 1 ≤ d + 1 + 2; omega, by show 8 + (1 + 11) + 0 ≤ 24 * (d + 1) + 42; omega⟩, ht _ q621⟩ (z_preS hK) rfl rfl hl.1 rfl (lv_room (Nat.le_of_ble_eq_true rfl)) d_M_end_21 ⟨Nat.zero_le _, Nat.zero_le _⟩) (fun v61 hv60 => ?_)
      have hv60 : v61 = .int (if isNum (nI (tW (tb t))) then 1 else 0) := hv60
      rw [if_neg (fun h9 => absurd ((isNum_nI (by omega)).mp h9) (by omega))] at hv60
      subst hv60
      refine lv_if_eq (tgt := 54) hx hb d_M_end_24 (by decide) (fun _ => ?_) (fun c63 => absurd c63 (by decide))
      refine lv_iload_n hx hb d_M_end_54 rfl (lv_at hl 0 rfl) ?_
      refine lv_bipush (v := 18) hx hb d_M_end_55 (by decide) ?_
      refine lv_icmp_ne (tgt := 84) hx hb d_M_end_57 (by decide) (fun c64 => absurd ((nI_eq (a := (tW (tb t))) (b := 18) (by omega) (by omega)).mpr (by omega)) c64) (fun c64 => ?_)
      refine lv_aload_n hx hb d_M_end_60 rfl (lv_at hl 1 rfl) ?_
      refine lv_aload_n hx hb d_M_end_61 rfl (lv_at hl 1 rfl) ?_
      refine va_get (D := D) (ci := 10) (v := .ref (mm 3)) (C := "ValueTreesModel") (T := T_M) (N := 12) hx hb ht in_M hown hK.1 hM.1 0 rfl rfl 2 (by decide) (ht _ q541) (fun _ h9 => h9) rfl d_M_end_62 ?_
      refine lv_iload_n hx hb d_M_end_65 rfl (lv_at hl 2 rfl) ?_
      refine z_iald hx hb hK (hM.1 3 _ rfl) t rfl (by omega) (by decide) d_M_end_66 ?_
      rw [e3]
      refine lv_aload_n hx hb d_M_end_67 rfl (lv_at hl 1 rfl) ?_
      refine lv_aload_n hx hb d_M_end_68 rfl (lv_at hl 1 rfl) ?_
      refine va_get (D := D) (ci := 10) (v := .ref (mm 2)) (C := "ValueTreesModel") (T := T_M) (N := 12) hx hb ht in_M hown hK.1 hM.1 0 rfl rfl 1 (by decide) (ht _ q540) (fun _ h9 => h9) rfl d_M_end_69 ?_
      refine lv_iload_n hx hb d_M_end_72 rfl (lv_at hl 2 rfl) ?_
      refine z_iald hx hb hK (hM.1 2 _ rfl) t rfl (by omega) (by decide) d_M_end_73 ?_
      rw [e2]
      refine lv_iload_n hx hb d_M_end_74 rfl (lv_at hl 3 rfl) ?_
      refine lv_iconst (v := 2) hx hb d_M_end_75 (by decide) ?_
      refine lv_iadd hx hb d_M_end_76 ?_
      rw [show (((nI a) + 2) : Int32) = nI (a + 2) from nI_add a 2]
      refine z_callR (va_runV (C := "ValueTreesModel") (As := [.int (nI (lt_ tb t)), .int (nI (a + 2))]) (rest := [.int (nI (rt_ tb t)), .ref (mm 0)]) ⟨hx, hb, hml, hown, hts⟩ (ih (lt_ tb t) x (a + 2) (by omega) (by omega) hx9 hfx (by omega)) ⟨callB_of 2 hts (gI gd_up gd_c q762) rfl rfl rfl (ht _ q10) (ht _ q759) hd_M_end ⟨by show d + 2 + 1 ≤ d + 1 + 2; omega, by show 8 + (5 + 11) + 24 * d + 42 ≤ 24 * (d + 1) + 42; omega⟩, ht _ q761, ht _ qs43⟩ (z_preV hK (va_recv hK.1 hM.1 (ci := 10) (q0 := 0) rfl rfl)) rfl rfl hl.1 rfl (lv_room (Nat.le_of_ble_eq_true rfl)) d_M_end_77 ⟨Nat.zero_le _, Nat.zero_le _⟩) (fun v66 hv65 => ?_)
      subst hv65
      refine z_callR (va_runV (C := "ValueTreesModel") (As := [.int (nI (rt_ tb t)), .int (nI (a + 2 + (cs x).length))]) (rest := []) ⟨hx, hb, hml, hown, hts⟩ (ih (rt_ tb t) y (a + 2 + (cs x).length) (by omega) (by omega) hy9 hfy (by omega)) ⟨callB_of 2 hts (gI gd_up gd_c q762) rfl rfl rfl (ht _ q10) (ht _ q759) hd_M_end ⟨by show d + 2 + 1 ≤ d + 1 + 2; omega, by show 8 + (5 + 11) + 24 * d + 42 ≤ 24 * (d + 1) + 42; omega⟩, ht _ q761, ht _ qs43⟩ (z_preV hK (va_recv hK.1 hM.1 (ci := 10) (q0 := 0) rfl rfl)) rfl rfl hl.1 rfl (lv_room (Nat.le_of_ble_eq_true rfl)) d_M_end_80 ⟨Nat.zero_le _, Nat.zero_le _⟩) (fun v68 hv67 => ?_)
      subst hv67
      exact z_iretR hx hb hr hlocks d_M_end_83 (by first | rfl | (congr 2; omega))
    | sub x v =>
      rw [f_sub] at hf
      rw [l_sub] at ha
      rw [l_sub]
      obtain ⟨-, hf1, hf⟩ := hf
      obtain ⟨-, ⟨hwd, rfl, hv⟩ | ⟨hwd, rfl, hv⟩ | ⟨hwd, rfl, hv⟩⟩ := hc
      · have hf1 : F (a + 1) = 9 := hf1
        obtain ⟨hL, hlt, hlp⟩ := tl_some hO htl (by omega)
        rw [hL] at e2
        have e2 : lf t = nI (lt_ tb t) := e2
        refine lv_aload_n hx hb d_M_end_0 rfl (lv_at hl 0 rfl) ?_
        refine va_get (D := D) (ci := 10) (v := .ref (mm 1)) (C := "ValueTreesModel") (T := T_M) (N := 12) hx hb ht in_M hown hK.1 hM.1 0 rfl rfl 0 (by decide) (ht _ q539) (fun _ h9 => h9) rfl d_M_end_1 ?_
        refine lv_iload_n hx hb d_M_end_4 rfl (lv_at hl 1 rfl) ?_
        refine z_iald hx hb hK (hM.1 1 _ rfl) t rfl (by omega) (by decide) d_M_end_5 ?_
        rw [e1]
        refine lv_istore_n (lv' := [(3, .int (nI (tW (tb t)))), (0, .ref (mm 0)), (1, .int (nI t)), (2, .int (nI a))]) hx hb d_M_end_6 rfl hl (by decide) rfl (fun ls hl => ?_)
        refine lv_iload_n hx hb d_M_end_7 rfl (lv_at hl 0 rfl) ?_
        refine lv_if_eq (tgt := 16) hx hb d_M_end_8 (by decide) (fun c69 => absurd ((nI_eq (a := (tW (tb t))) (b := 0) (by omega) (by omega)).mp c69) (by omega)) (fun c69 => ?_)
        refine lv_iload_n hx hb d_M_end_11 rfl (lv_at hl 0 rfl) ?_
        refine lv_iconst (v := 1) hx hb d_M_end_12 (by decide) ?_
        refine lv_icmp_ne (tgt := 20) hx hb d_M_end_13 (by decide) (fun c70 => ?_) (fun c70 => absurd ((nI_eq (a := (tW (tb t))) (b := 1) (by omega) (by omega)).mp c70) (by omega))
        refine lv_iload_n hx hb d_M_end_20 rfl (lv_at hl 0 rfl) ?_
        refine z_callR (va_runS (As := [.int (nI (tW (tb t)))]) (rest := []) ⟨hx, hb, hml, hown, hts⟩ (c_M_isNumber l D dT _ (nI (tW (tb t)))) ⟨callB_of 1 hts (gI gd_up gd_c q622) rfl rfl rfl (ht _ q10) (ht _ q620) hd_M_isNumber ⟨by show 0 + 1 ≤ d + 1 + 2; omega, by show 8 + (1 + 11) + 0 ≤ 24 * (d + 1) + 42; omega⟩, ht _ q621⟩ (z_preS hK) rfl rfl hl.1 rfl (lv_room (Nat.le_of_ble_eq_true rfl)) d_M_end_21 ⟨Nat.zero_le _, Nat.zero_le _⟩) (fun v72 hv71 => ?_)
        have hv71 : v72 = .int (if isNum (nI (tW (tb t))) then 1 else 0) := hv71
        rw [if_neg (fun h9 => absurd ((isNum_nI (by omega)).mp h9) (by omega))] at hv71
        subst hv71
        refine lv_if_eq (tgt := 54) hx hb d_M_end_24 (by decide) (fun _ => ?_) (fun c74 => absurd c74 (by decide))
        refine lv_iload_n hx hb d_M_end_54 rfl (lv_at hl 0 rfl) ?_
        refine lv_bipush (v := 18) hx hb d_M_end_55 (by decide) ?_
        refine lv_icmp_ne (tgt := 84) hx hb d_M_end_57 (by decide) (fun c75 => ?_) (fun c75 => absurd ((nI_eq (a := (tW (tb t))) (b := 18) (by omega) (by omega)).mp c75) (by omega))
        refine lv_iload_n hx hb d_M_end_84 rfl (lv_at hl 0 rfl) ?_
        refine lv_bipush (v := 10) hx hb d_M_end_85 (by decide) ?_
        refine lv_icmp_ne (tgt := 122) hx hb d_M_end_87 (by decide) (fun c76 => absurd ((nI_eq (a := (tW (tb t))) (b := 10) (by omega) (by omega)).mpr (by omega)) c76) (fun c76 => ?_)
        refine lv_aload_n hx hb d_M_end_90 rfl (lv_at hl 1 rfl) ?_
        refine lv_iload_n hx hb d_M_end_91 rfl (lv_at hl 3 rfl) ?_
        refine lv_iconst (v := 1) hx hb d_M_end_92 (by decide) ?_
        refine lv_iadd hx hb d_M_end_93 ?_
        rw [show (((nI a) + 1) : Int32) = nI (a + 1) from nI_add a 1]
        refine z_callR (va_runV (C := "ValueTreesModel") (As := [.int (nI (a + 1))]) (rest := []) ⟨hx, hb, hml, hown, hts⟩ (c_M_byteOf l D dT _ mm wd lf rt tc ty F sz Wk wz dg dc sh hM (a + 1) (by omega) (hF _)) ⟨callB_of 1 hts (gI gd_up gd_c q670) rfl rfl rfl (ht _ q10) (ht _ q667) hd_M_byteOf ⟨by show 0 + 1 ≤ d + 1 + 2; omega, by show 8 + (2 + 11) + 0 ≤ 24 * (d + 1) + 42; omega⟩, ht _ q669, ht _ qs29⟩ (z_preV hK (va_recv hK.1 hM.1 (ci := 10) (q0 := 0) rfl rfl)) rfl rfl hl.1 rfl (lv_room (Nat.le_of_ble_eq_true rfl)) d_M_end_94 ⟨Nat.zero_le _, Nat.zero_le _⟩) (fun v78 hv77 => ?_)
        subst hv77
        rw [hf1]
        refine lv_bipush (v := 6) hx hb d_M_end_97 (by decide) ?_
        refine lv_icmp_ne (tgt := 108) hx hb d_M_end_99 (by decide) (fun c79 => ?_) (fun c79 => absurd ((nI_eq (a := 9) (b := 6) (by omega) (by omega)).mp c79) (by omega))
        refine lv_aload_n hx hb d_M_end_108 rfl (lv_at hl 1 rfl) ?_
        refine lv_aload_n hx hb d_M_end_109 rfl (lv_at hl 1 rfl) ?_
        refine va_get (D := D) (ci := 10) (v := .ref (mm 2)) (C := "ValueTreesModel") (T := T_M) (N := 12) hx hb ht in_M hown hK.1 hM.1 0 rfl rfl 1 (by decide) (ht _ q540) (fun _ h9 => h9) rfl d_M_end_110 ?_
        refine lv_iload_n hx hb d_M_end_113 rfl (lv_at hl 2 rfl) ?_
        refine z_iald hx hb hK (hM.1 2 _ rfl) t rfl (by omega) (by decide) d_M_end_114 ?_
        rw [e2]
        refine lv_iload_n hx hb d_M_end_115 rfl (lv_at hl 3 rfl) ?_
        refine lv_iconst (v := 2) hx hb d_M_end_116 (by decide) ?_
        refine lv_iadd hx hb d_M_end_117 ?_
        rw [show (((nI a) + 2) : Int32) = nI (a + 2) from nI_add a 2]
        refine z_callR (va_runV (C := "ValueTreesModel") (As := [.int (nI (lt_ tb t)), .int (nI (a + 2))]) (rest := []) ⟨hx, hb, hml, hown, hts⟩ (ih (lt_ tb t) v (a + 2) (by omega) (by omega) hv hf (by omega)) ⟨callB_of 2 hts (gI gd_up gd_c q762) rfl rfl rfl (ht _ q10) (ht _ q759) hd_M_end ⟨by show d + 2 + 1 ≤ d + 1 + 2; omega, by show 8 + (5 + 11) + 24 * d + 42 ≤ 24 * (d + 1) + 42; omega⟩, ht _ q761, ht _ qs43⟩ (z_preV hK (va_recv hK.1 hM.1 (ci := 10) (q0 := 0) rfl rfl)) rfl rfl hl.1 rfl (lv_room (Nat.le_of_ble_eq_true rfl)) d_M_end_118 ⟨Nat.zero_le _, Nat.zero_le _⟩) (fun v81 hv80 => ?_)
        subst hv80
        exact z_iretR hx hb hr hlocks d_M_end_121 (by first | rfl | (congr 2; omega))
      · have hf1 : F (a + 1) = 5 := hf1
        obtain ⟨hL, hlt, hlp⟩ := tl_some hO htl (by omega)
        rw [hL] at e2
        have e2 : lf t = nI (lt_ tb t) := e2
        obtain ⟨hRr, hrt, hrp⟩ := tr_some hO htl (by omega)
        rw [hRr] at e3
        have e3 : rt t = nI (rt_ tb t) := e3
        refine lv_aload_n hx hb d_M_end_0 rfl (lv_at hl 0 rfl) ?_
        refine va_get (D := D) (ci := 10) (v := .ref (mm 1)) (C := "ValueTreesModel") (T := T_M) (N := 12) hx hb ht in_M hown hK.1 hM.1 0 rfl rfl 0 (by decide) (ht _ q539) (fun _ h9 => h9) rfl d_M_end_1 ?_
        refine lv_iload_n hx hb d_M_end_4 rfl (lv_at hl 1 rfl) ?_
        refine z_iald hx hb hK (hM.1 1 _ rfl) t rfl (by omega) (by decide) d_M_end_5 ?_
        rw [e1]
        refine lv_istore_n (lv' := [(3, .int (nI (tW (tb t)))), (0, .ref (mm 0)), (1, .int (nI t)), (2, .int (nI a))]) hx hb d_M_end_6 rfl hl (by decide) rfl (fun ls hl => ?_)
        refine lv_iload_n hx hb d_M_end_7 rfl (lv_at hl 0 rfl) ?_
        refine lv_if_eq (tgt := 16) hx hb d_M_end_8 (by decide) (fun c82 => absurd ((nI_eq (a := (tW (tb t))) (b := 0) (by omega) (by omega)).mp c82) (by omega)) (fun c82 => ?_)
        refine lv_iload_n hx hb d_M_end_11 rfl (lv_at hl 0 rfl) ?_
        refine lv_iconst (v := 1) hx hb d_M_end_12 (by decide) ?_
        refine lv_icmp_ne (tgt := 20) hx hb d_M_end_13 (by decide) (fun c83 => ?_) (fun c83 => absurd ((nI_eq (a := (tW (tb t))) (b := 1) (by omega) (by omega)).mp c83) (by omega))
        refine lv_iload_n hx hb d_M_end_20 rfl (lv_at hl 0 rfl) ?_
        refine z_callR (va_runS (As := [.int (nI (tW (tb t)))]) (rest := []) ⟨hx, hb, hml, hown, hts⟩ (c_M_isNumber l D dT _ (nI (tW (tb t)))) ⟨callB_of 1 hts (gI gd_up gd_c q622) rfl rfl rfl (ht _ q10) (ht _ q620) hd_M_isNumber ⟨by show 0 + 1 ≤ d + 1 + 2; omega, by show 8 + (1 + 11) + 0 ≤ 24 * (d + 1) + 42; omega⟩, ht _ q621⟩ (z_preS hK) rfl rfl hl.1 rfl (lv_room (Nat.le_of_ble_eq_true rfl)) d_M_end_21 ⟨Nat.zero_le _, Nat.zero_le _⟩) (fun v85 hv84 => ?_)
        have hv84 : v85 = .int (if isNum (nI (tW (tb t))) then 1 else 0) := hv84
        rw [if_neg (fun h9 => absurd ((isNum_nI (by omega)).mp h9) (by omega))] at hv84
        subst hv84
        refine lv_if_eq (tgt := 54) hx hb d_M_end_24 (by decide) (fun _ => ?_) (fun c87 => absurd c87 (by decide))
        refine lv_iload_n hx hb d_M_end_54 rfl (lv_at hl 0 rfl) ?_
        refine lv_bipush (v := 18) hx hb d_M_end_55 (by decide) ?_
        refine lv_icmp_ne (tgt := 84) hx hb d_M_end_57 (by decide) (fun c88 => ?_) (fun c88 => absurd ((nI_eq (a := (tW (tb t))) (b := 18) (by omega) (by omega)).mp c88) (by omega))
        refine lv_iload_n hx hb d_M_end_84 rfl (lv_at hl 0 rfl) ?_
        refine lv_bipush (v := 10) hx hb d_M_end_85 (by decide) ?_
        refine lv_icmp_ne (tgt := 122) hx hb d_M_end_87 (by decide) (fun c89 => ?_) (fun c89 => absurd ((nI_eq (a := (tW (tb t))) (b := 10) (by omega) (by omega)).mp c89) (by omega))
        refine lv_iload_n hx hb d_M_end_122 rfl (lv_at hl 0 rfl) ?_
        refine lv_bipush (v := 14) hx hb d_M_end_123 (by decide) ?_
        refine lv_icmp_ne (tgt := 162) hx hb d_M_end_125 (by decide) (fun c90 => absurd ((nI_eq (a := (tW (tb t))) (b := 14) (by omega) (by omega)).mpr (by omega)) c90) (fun c90 => ?_)
        refine lv_aload_n hx hb d_M_end_128 rfl (lv_at hl 1 rfl) ?_
        refine lv_aload_n hx hb d_M_end_129 rfl (lv_at hl 1 rfl) ?_
        refine lv_iload_n hx hb d_M_end_130 rfl (lv_at hl 3 rfl) ?_
        refine lv_iconst (v := 1) hx hb d_M_end_131 (by decide) ?_
        refine lv_iadd hx hb d_M_end_132 ?_
        rw [show (((nI a) + 1) : Int32) = nI (a + 1) from nI_add a 1]
        refine z_callR (va_runV (C := "ValueTreesModel") (As := [.int (nI (a + 1))]) (rest := [.ref (mm 0)]) ⟨hx, hb, hml, hown, hts⟩ (c_M_byteOf l D dT _ mm wd lf rt tc ty F sz Wk wz dg dc sh hM (a + 1) (by omega) (hF _)) ⟨callB_of 1 hts (gI gd_up gd_c q670) rfl rfl rfl (ht _ q10) (ht _ q667) hd_M_byteOf ⟨by show 0 + 1 ≤ d + 1 + 2; omega, by show 8 + (2 + 11) + 0 ≤ 24 * (d + 1) + 42; omega⟩, ht _ q669, ht _ qs29⟩ (z_preV hK (va_recv hK.1 hM.1 (ci := 10) (q0 := 0) rfl rfl)) rfl rfl hl.1 rfl (lv_room (Nat.le_of_ble_eq_true rfl)) d_M_end_133 ⟨Nat.zero_le _, Nat.zero_le _⟩) (fun v92 hv91 => ?_)
        subst hv91
        rw [hf1]
        refine lv_iconst (v := 5) hx hb d_M_end_136 (by decide) ?_
        refine lv_icmp_ne (tgt := 149) hx hb d_M_end_137 (by decide) (fun c93 => absurd ((nI_eq (a := 5) (b := 5) (by omega) (by omega)).mpr (by omega)) c93) (fun c93 => ?_)
        refine lv_aload_n hx hb d_M_end_140 rfl (lv_at hl 1 rfl) ?_
        refine va_get (D := D) (ci := 10) (v := .ref (mm 2)) (C := "ValueTreesModel") (T := T_M) (N := 12) hx hb ht in_M hown hK.1 hM.1 0 rfl rfl 1 (by decide) (ht _ q540) (fun _ h9 => h9) rfl d_M_end_141 ?_
        refine lv_iload_n hx hb d_M_end_144 rfl (lv_at hl 2 rfl) ?_
        refine z_iald hx hb hK (hM.1 2 _ rfl) t rfl (by omega) (by decide) d_M_end_145 ?_
        rw [e2]
        refine lv_goto (tgt := 155) hx hb d_M_end_146 (by decide) ?_
        refine lv_iload_n hx hb d_M_end_155 rfl (lv_at hl 3 rfl) ?_
        refine lv_iconst (v := 2) hx hb d_M_end_156 (by decide) ?_
        refine lv_iadd hx hb d_M_end_157 ?_
        rw [show (((nI a) + 2) : Int32) = nI (a + 2) from nI_add a 2]
        refine z_callR (va_runV (C := "ValueTreesModel") (As := [.int (nI (lt_ tb t)), .int (nI (a + 2))]) (rest := []) ⟨hx, hb, hml, hown, hts⟩ (ih (lt_ tb t) v (a + 2) (by omega) (by omega) hv hf (by omega)) ⟨callB_of 2 hts (gI gd_up gd_c q762) rfl rfl rfl (ht _ q10) (ht _ q759) hd_M_end ⟨by show d + 2 + 1 ≤ d + 1 + 2; omega, by show 8 + (5 + 11) + 24 * d + 42 ≤ 24 * (d + 1) + 42; omega⟩, ht _ q761, ht _ qs43⟩ (z_preV hK (va_recv hK.1 hM.1 (ci := 10) (q0 := 0) rfl rfl)) rfl rfl hl.1 rfl (lv_room (Nat.le_of_ble_eq_true rfl)) d_M_end_158 ⟨Nat.zero_le _, Nat.zero_le _⟩) (fun v95 hv94 => ?_)
        subst hv94
        exact z_iretR hx hb hr hlocks d_M_end_161 (by first | rfl | (congr 2; omega))
      · have hf1 : F (a + 1) = 8 := hf1
        obtain ⟨hL, hlt, hlp⟩ := tl_some hO htl (by omega)
        rw [hL] at e2
        have e2 : lf t = nI (lt_ tb t) := e2
        obtain ⟨hRr, hrt, hrp⟩ := tr_some hO htl (by omega)
        rw [hRr] at e3
        have e3 : rt t = nI (rt_ tb t) := e3
        refine lv_aload_n hx hb d_M_end_0 rfl (lv_at hl 0 rfl) ?_
        refine va_get (D := D) (ci := 10) (v := .ref (mm 1)) (C := "ValueTreesModel") (T := T_M) (N := 12) hx hb ht in_M hown hK.1 hM.1 0 rfl rfl 0 (by decide) (ht _ q539) (fun _ h9 => h9) rfl d_M_end_1 ?_
        refine lv_iload_n hx hb d_M_end_4 rfl (lv_at hl 1 rfl) ?_
        refine z_iald hx hb hK (hM.1 1 _ rfl) t rfl (by omega) (by decide) d_M_end_5 ?_
        rw [e1]
        refine lv_istore_n (lv' := [(3, .int (nI (tW (tb t)))), (0, .ref (mm 0)), (1, .int (nI t)), (2, .int (nI a))]) hx hb d_M_end_6 rfl hl (by decide) rfl (fun ls hl => ?_)
        refine lv_iload_n hx hb d_M_end_7 rfl (lv_at hl 0 rfl) ?_
        refine lv_if_eq (tgt := 16) hx hb d_M_end_8 (by decide) (fun c96 => absurd ((nI_eq (a := (tW (tb t))) (b := 0) (by omega) (by omega)).mp c96) (by omega)) (fun c96 => ?_)
        refine lv_iload_n hx hb d_M_end_11 rfl (lv_at hl 0 rfl) ?_
        refine lv_iconst (v := 1) hx hb d_M_end_12 (by decide) ?_
        refine lv_icmp_ne (tgt := 20) hx hb d_M_end_13 (by decide) (fun c97 => ?_) (fun c97 => absurd ((nI_eq (a := (tW (tb t))) (b := 1) (by omega) (by omega)).mp c97) (by omega))
        refine lv_iload_n hx hb d_M_end_20 rfl (lv_at hl 0 rfl) ?_
        refine z_callR (va_runS (As := [.int (nI (tW (tb t)))]) (rest := []) ⟨hx, hb, hml, hown, hts⟩ (c_M_isNumber l D dT _ (nI (tW (tb t)))) ⟨callB_of 1 hts (gI gd_up gd_c q622) rfl rfl rfl (ht _ q10) (ht _ q620) hd_M_isNumber ⟨by show 0 + 1 ≤ d + 1 + 2; omega, by show 8 + (1 + 11) + 0 ≤ 24 * (d + 1) + 42; omega⟩, ht _ q621⟩ (z_preS hK) rfl rfl hl.1 rfl (lv_room (Nat.le_of_ble_eq_true rfl)) d_M_end_21 ⟨Nat.zero_le _, Nat.zero_le _⟩) (fun v99 hv98 => ?_)
        have hv98 : v99 = .int (if isNum (nI (tW (tb t))) then 1 else 0) := hv98
        rw [if_neg (fun h9 => absurd ((isNum_nI (by omega)).mp h9) (by omega))] at hv98
        subst hv98
        refine lv_if_eq (tgt := 54) hx hb d_M_end_24 (by decide) (fun _ => ?_) (fun c101 => absurd c101 (by decide))
        refine lv_iload_n hx hb d_M_end_54 rfl (lv_at hl 0 rfl) ?_
        refine lv_bipush (v := 18) hx hb d_M_end_55 (by decide) ?_
        refine lv_icmp_ne (tgt := 84) hx hb d_M_end_57 (by decide) (fun c102 => ?_) (fun c102 => absurd ((nI_eq (a := (tW (tb t))) (b := 18) (by omega) (by omega)).mp c102) (by omega))
        refine lv_iload_n hx hb d_M_end_84 rfl (lv_at hl 0 rfl) ?_
        refine lv_bipush (v := 10) hx hb d_M_end_85 (by decide) ?_
        refine lv_icmp_ne (tgt := 122) hx hb d_M_end_87 (by decide) (fun c103 => ?_) (fun c103 => absurd ((nI_eq (a := (tW (tb t))) (b := 10) (by omega) (by omega)).mp c103) (by omega))
        refine lv_iload_n hx hb d_M_end_122 rfl (lv_at hl 0 rfl) ?_
        refine lv_bipush (v := 14) hx hb d_M_end_123 (by decide) ?_
        refine lv_icmp_ne (tgt := 162) hx hb d_M_end_125 (by decide) (fun c104 => absurd ((nI_eq (a := (tW (tb t))) (b := 14) (by omega) (by omega)).mpr (by omega)) c104) (fun c104 => ?_)
        refine lv_aload_n hx hb d_M_end_128 rfl (lv_at hl 1 rfl) ?_
        refine lv_aload_n hx hb d_M_end_129 rfl (lv_at hl 1 rfl) ?_
        refine lv_iload_n hx hb d_M_end_130 rfl (lv_at hl 3 rfl) ?_
        refine lv_iconst (v := 1) hx hb d_M_end_131 (by decide) ?_
        refine lv_iadd hx hb d_M_end_132 ?_
        rw [show (((nI a) + 1) : Int32) = nI (a + 1) from nI_add a 1]
        refine z_callR (va_runV (C := "ValueTreesModel") (As := [.int (nI (a + 1))]) (rest := [.ref (mm 0)]) ⟨hx, hb, hml, hown, hts⟩ (c_M_byteOf l D dT _ mm wd lf rt tc ty F sz Wk wz dg dc sh hM (a + 1) (by omega) (hF _)) ⟨callB_of 1 hts (gI gd_up gd_c q670) rfl rfl rfl (ht _ q10) (ht _ q667) hd_M_byteOf ⟨by show 0 + 1 ≤ d + 1 + 2; omega, by show 8 + (2 + 11) + 0 ≤ 24 * (d + 1) + 42; omega⟩, ht _ q669, ht _ qs29⟩ (z_preV hK (va_recv hK.1 hM.1 (ci := 10) (q0 := 0) rfl rfl)) rfl rfl hl.1 rfl (lv_room (Nat.le_of_ble_eq_true rfl)) d_M_end_133 ⟨Nat.zero_le _, Nat.zero_le _⟩) (fun v106 hv105 => ?_)
        subst hv105
        rw [hf1]
        refine lv_iconst (v := 5) hx hb d_M_end_136 (by decide) ?_
        refine lv_icmp_ne (tgt := 149) hx hb d_M_end_137 (by decide) (fun c107 => ?_) (fun c107 => absurd ((nI_eq (a := 8) (b := 5) (by omega) (by omega)).mp c107) (by omega))
        refine lv_aload_n hx hb d_M_end_149 rfl (lv_at hl 1 rfl) ?_
        refine va_get (D := D) (ci := 10) (v := .ref (mm 3)) (C := "ValueTreesModel") (T := T_M) (N := 12) hx hb ht in_M hown hK.1 hM.1 0 rfl rfl 2 (by decide) (ht _ q541) (fun _ h9 => h9) rfl d_M_end_150 ?_
        refine lv_iload_n hx hb d_M_end_153 rfl (lv_at hl 2 rfl) ?_
        refine z_iald hx hb hK (hM.1 3 _ rfl) t rfl (by omega) (by decide) d_M_end_154 ?_
        rw [e3]
        refine lv_iload_n hx hb d_M_end_155 rfl (lv_at hl 3 rfl) ?_
        refine lv_iconst (v := 2) hx hb d_M_end_156 (by decide) ?_
        refine lv_iadd hx hb d_M_end_157 ?_
        rw [show (((nI a) + 2) : Int32) = nI (a + 2) from nI_add a 2]
        refine z_callR (va_runV (C := "ValueTreesModel") (As := [.int (nI (rt_ tb t)), .int (nI (a + 2))]) (rest := []) ⟨hx, hb, hml, hown, hts⟩ (ih (rt_ tb t) v (a + 2) (by omega) (by omega) hv hf (by omega)) ⟨callB_of 2 hts (gI gd_up gd_c q762) rfl rfl rfl (ht _ q10) (ht _ q759) hd_M_end ⟨by show d + 2 + 1 ≤ d + 1 + 2; omega, by show 8 + (5 + 11) + 24 * d + 42 ≤ 24 * (d + 1) + 42; omega⟩, ht _ q761, ht _ qs43⟩ (z_preV hK (va_recv hK.1 hM.1 (ci := 10) (q0 := 0) rfl rfl)) rfl rfl hl.1 rfl (lv_room (Nat.le_of_ble_eq_true rfl)) d_M_end_158 ⟨Nat.zero_le _, Nat.zero_le _⟩) (fun v109 hv108 => ?_)
        subst hv108
        exact z_iretR hx hb hr hlocks d_M_end_161 (by first | rfl | (congr 2; omega))
    | mul x y =>
      have hwd : tW (tb t) = 11 := by simp only [wty] at hc; omega
      rw [f_mul] at hf
      rw [l_mul] at ha
      rw [l_mul]
      refine lv_aload_n hx hb d_M_end_0 rfl (lv_at hl 0 rfl) ?_
      refine va_get (D := D) (ci := 10) (v := .ref (mm 1)) (C := "ValueTreesModel") (T := T_M) (N := 12) hx hb ht in_M hown hK.1 hM.1 0 rfl rfl 0 (by decide) (ht _ q539) (fun _ h9 => h9) rfl d_M_end_1 ?_
      refine lv_iload_n hx hb d_M_end_4 rfl (lv_at hl 1 rfl) ?_
      refine z_iald hx hb hK (hM.1 1 _ rfl) t rfl (by omega) (by decide) d_M_end_5 ?_
      rw [e1]
      refine lv_istore_n (lv' := [(3, .int (nI (tW (tb t)))), (0, .ref (mm 0)), (1, .int (nI t)), (2, .int (nI a))]) hx hb d_M_end_6 rfl hl (by decide) rfl (fun ls hl => ?_)
      refine lv_iload_n hx hb d_M_end_7 rfl (lv_at hl 0 rfl) ?_
      refine lv_if_eq (tgt := 16) hx hb d_M_end_8 (by decide) (fun c110 => absurd ((nI_eq (a := (tW (tb t))) (b := 0) (by omega) (by omega)).mp c110) (by omega)) (fun c110 => ?_)
      refine lv_iload_n hx hb d_M_end_11 rfl (lv_at hl 0 rfl) ?_
      refine lv_iconst (v := 1) hx hb d_M_end_12 (by decide) ?_
      refine lv_icmp_ne (tgt := 20) hx hb d_M_end_13 (by decide) (fun c111 => ?_) (fun c111 => absurd ((nI_eq (a := (tW (tb t))) (b := 1) (by omega) (by omega)).mp c111) (by omega))
      refine lv_iload_n hx hb d_M_end_20 rfl (lv_at hl 0 rfl) ?_
      refine z_callR (va_runS (As := [.int (nI (tW (tb t)))]) (rest := []) ⟨hx, hb, hml, hown, hts⟩ (c_M_isNumber l D dT _ (nI (tW (tb t)))) ⟨callB_of 1 hts (gI gd_up gd_c q622) rfl rfl rfl (ht _ q10) (ht _ q620) hd_M_isNumber ⟨by show 0 + 1 ≤ d + 1 + 2; omega, by show 8 + (1 + 11) + 0 ≤ 24 * (d + 1) + 42; omega⟩, ht _ q621⟩ (z_preS hK) rfl rfl hl.1 rfl (lv_room (Nat.le_of_ble_eq_true rfl)) d_M_end_21 ⟨Nat.zero_le _, Nat.zero_le _⟩) (fun v113 hv112 => ?_)
      have hv112 : v113 = .int (if isNum (nI (tW (tb t))) then 1 else 0) := hv112
      rw [if_neg (fun h9 => absurd ((isNum_nI (by omega)).mp h9) (by omega))] at hv112
      subst hv112
      refine lv_if_eq (tgt := 54) hx hb d_M_end_24 (by decide) (fun _ => ?_) (fun c115 => absurd c115 (by decide))
      refine lv_iload_n hx hb d_M_end_54 rfl (lv_at hl 0 rfl) ?_
      refine lv_bipush (v := 18) hx hb d_M_end_55 (by decide) ?_
      refine lv_icmp_ne (tgt := 84) hx hb d_M_end_57 (by decide) (fun c116 => ?_) (fun c116 => absurd ((nI_eq (a := (tW (tb t))) (b := 18) (by omega) (by omega)).mp c116) (by omega))
      refine lv_iload_n hx hb d_M_end_84 rfl (lv_at hl 0 rfl) ?_
      refine lv_bipush (v := 10) hx hb d_M_end_85 (by decide) ?_
      refine lv_icmp_ne (tgt := 122) hx hb d_M_end_87 (by decide) (fun c117 => ?_) (fun c117 => absurd ((nI_eq (a := (tW (tb t))) (b := 10) (by omega) (by omega)).mp c117) (by omega))
      refine lv_iload_n hx hb d_M_end_122 rfl (lv_at hl 0 rfl) ?_
      refine lv_bipush (v := 14) hx hb d_M_end_123 (by decide) ?_
      refine lv_icmp_ne (tgt := 162) hx hb d_M_end_125 (by decide) (fun c118 => ?_) (fun c118 => absurd ((nI_eq (a := (tW (tb t))) (b := 14) (by omega) (by omega)).mp c118) (by omega))
      refine lv_iload_n hx hb d_M_end_162 rfl (lv_at hl 3 rfl) ?_
      refine lv_iconst (v := 5) hx hb d_M_end_163 (by decide) ?_
      refine lv_iadd hx hb d_M_end_164 ?_
      rw [show (((nI a) + 5) : Int32) = nI (a + 5) from nI_add a 5]
      refine lv_aload_n hx hb d_M_end_165 rfl (lv_at hl 1 rfl) ?_
      refine lv_iload_n hx hb d_M_end_166 rfl (lv_at hl 3 rfl) ?_
      refine lv_iconst (v := 1) hx hb d_M_end_167 (by decide) ?_
      refine lv_iadd hx hb d_M_end_168 ?_
      rw [show (((nI a) + 1) : Int32) = nI (a + 1) from nI_add a 1]
      refine z_callR (va_runV (C := "ValueTreesModel") (As := [.int (nI (a + 1))]) (rest := [.int (nI (a + 5))]) ⟨hx, hb, hml, hown, hts⟩ (c_M_sizeAt l D dT _ mm wd lf rt tc ty F sz Wk wz dg dc sh hM hF (a + 1) ((cs (.mul x y)).length) (by omega) (by omega) hf.2.1) ⟨callB_of 1 hts (gI gd_up gd_c q758) rfl rfl rfl (ht _ q10) (ht _ q755) hd_M_sizeAt ⟨by show 1 + 1 ≤ d + 1 + 2; omega, by show 8 + (2 + 11) + 21 ≤ 24 * (d + 1) + 42; omega⟩, ht _ q757, ht _ qs42⟩ (z_preV hK (va_recv hK.1 hM.1 (ci := 10) (q0 := 0) rfl rfl)) rfl rfl hl.1 rfl (lv_room (Nat.le_of_ble_eq_true rfl)) d_M_end_169 ⟨Nat.zero_le _, Nat.zero_le _⟩) (fun v120 hv119 => ?_)
      subst hv119
      refine lv_iadd hx hb d_M_end_172 ?_
      rw [show (((nI (a + 5)) + (nI ((cs (.mul x y)).length))) : Int32) = nI ((a + 5) + ((cs (.mul x y)).length)) from nI_add (a + 5) ((cs (.mul x y)).length)]
      exact z_iretR hx hb hr hlocks d_M_end_173 (by first | rfl | (congr 2; omega))
    | pow c8 t8 =>
      exact absurd hc.1 (by decide)
