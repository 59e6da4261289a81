abbrev b_V_digitsOf : ByteArray := prog_1_method_42_code
abbrev y_V_digitsOf : MethodName := ⟨"ValueTrees", "digitsOf", "(JI)[I"⟩
abbrev w_V_digitsOf : List Cond := .code y_V_digitsOf b_V_digitsOf 5 (Option.some (.array .int)) :: gt
theorem hd_V_digitsOf : (y_V_digitsOf).cls ≠ "java/lang/invoke/MethodHandle" ∧ (y_V_digitsOf).cls ≠ "java/lang/invoke/VarHandle" ∧ (parseMethodDescriptor (y_V_digitsOf).desc).map (fun d => d.parameters.length) = some 2 := by decide +kernel
theorem d_V_digitsOf_0 : decode b_V_digitsOf 0 = .ok (.iload_n 2, 1) := by decide +kernel
theorem d_V_digitsOf_1 : decode b_V_digitsOf 1 = .ok (.invokestatic 241, 3) := by decide +kernel
theorem d_V_digitsOf_4 : decode b_V_digitsOf 4 = .ok (.newarray .int, 2) := by decide +kernel
theorem d_V_digitsOf_6 : decode b_V_digitsOf 6 = .ok (.astore_n 3, 1) := by decide +kernel
theorem d_V_digitsOf_7 : decode b_V_digitsOf 7 = .ok (.iconst 0, 1) := by decide +kernel
theorem d_V_digitsOf_8 : decode b_V_digitsOf 8 = .ok (.istore 4, 2) := by decide +kernel
theorem d_V_digitsOf_10 : decode b_V_digitsOf 10 = .ok (.iload 4, 2) := by decide +kernel
theorem d_V_digitsOf_12 : decode b_V_digitsOf 12 = .ok (.aload_n 3, 1) := by decide +kernel
theorem d_V_digitsOf_13 : decode b_V_digitsOf 13 = .ok (.arraylength, 1) := by decide +kernel
theorem d_V_digitsOf_14 : decode b_V_digitsOf 14 = .ok (.if_icmp .ge 24, 3) := by decide +kernel
theorem d_V_digitsOf_17 : decode b_V_digitsOf 17 = .ok (.aload_n 3, 1) := by decide +kernel
theorem d_V_digitsOf_18 : decode b_V_digitsOf 18 = .ok (.iload 4, 2) := by decide +kernel
theorem d_V_digitsOf_20 : decode b_V_digitsOf 20 = .ok (.lload_n 0, 1) := by decide +kernel
theorem d_V_digitsOf_21 : decode b_V_digitsOf 21 = .ok (.bipush 16, 2) := by decide +kernel
theorem d_V_digitsOf_23 : decode b_V_digitsOf 23 = .ok (.iload 4, 2) := by decide +kernel
theorem d_V_digitsOf_25 : decode b_V_digitsOf 25 = .ok (.imul, 1) := by decide +kernel
theorem d_V_digitsOf_26 : decode b_V_digitsOf 26 = .ok (.lushr, 1) := by decide +kernel
theorem d_V_digitsOf_27 : decode b_V_digitsOf 27 = .ok (.l2i, 1) := by decide +kernel
theorem d_V_digitsOf_28 : decode b_V_digitsOf 28 = .ok (.ldc 244, 2) := by decide +kernel
theorem d_V_digitsOf_30 : decode b_V_digitsOf 30 = .ok (.iand, 1) := by decide +kernel
theorem d_V_digitsOf_31 : decode b_V_digitsOf 31 = .ok (.iastore, 1) := by decide +kernel
theorem d_V_digitsOf_32 : decode b_V_digitsOf 32 = .ok (.iinc 4 1, 3) := by decide +kernel
theorem d_V_digitsOf_35 : decode b_V_digitsOf 35 = .ok (.goto (-25), 3) := by decide +kernel
theorem d_V_digitsOf_38 : decode b_V_digitsOf 38 = .ok (.aload_n 3, 1) := by decide +kernel
theorem d_V_digitsOf_39 : decode b_V_digitsOf 39 = .ok (.areturn, 1) := by decide +kernel
set_option maxHeartbeats 4000000 in
set_option maxRecDepth 100000 in
theorem c_V_digitsOf (l : Launch) (D : va_G) (dT : Nat → ClassId) (H : Heap) (x : Int64) (N : Nat) (hN9 : x.toUInt64.toNat = N) : Met l y_V_digitsOf w_V_digitsOf ({ frames := 1, cells := 1, slots := 4, locals := 20 }) (z_P D dT [.long x, .int (nI (nb N))] H) (z_Q (fun q => H.size ≤ q) (fun v H1 => ∃ q, v = some (.ref q) ∧ H.size ≤ q ∧ va_at D cls (q, .inl (dT 0, ((nb N + 15) / 16), .inl (fun k => nI (N / 65536 ^ k % 65536)))) H1)) 1 4 (fun q => H.size ≤ q) := by
  have hn64 : nb N ≤ 64 := by rw [← hN9]; exact nb_lt.mpr x.toUInt64.toNat_lt
  refine Met.ofW (cc := b_V_digitsOf) (maxL := 5) (ret := (Option.some (.array .int))) (by decide) rfl ?_
  intro p e s m args below meth c s₁ B hml hv
  obtain ⟨rfl, rfl, hK⟩ := hv
  have hx := B.exec
  have hb := B.bytes
  have hr := B.returns
  have hts := atoms_spec (ws := w_V_digitsOf) B.pre
  have ht : ∀ w9 ∈ gt, w9.before [.long x, .int (nI (nb N))].toArray s = true := fun w9 h => hts w9 (List.mem_cons_of_mem _ h)
  have hown : s.vm.findClass "ValueTrees" = some m.cls := findClass_of_methodNamed B.named
  have hlocks := B.notSynchronized
  have hS : va_S (fun q => s.heap.size ≤ q) s.heap s.heap [] := va_S.rf
  have hl := lv_entry ([.long x, .int (nI (nb N))]) (n := 5) (Nat.le_of_ble_eq_true rfl)
  rw [lg_entry_eq]
  generalize (lg_sl ([.long x, .int (nI (nb N))]) ++ List.replicate (5 - (lg_sl ([.long x, .int (nI (nb N))])).length) Slot.unset).toArray = ls at hl ⊢
  have hl : lv_has ls 5 [(0, .long x), (2, .int (nI (nb N)))] := hl
  have hN : nU s.heap s.heap := nU.rf
  refine lv_iload_n hx hb d_V_digitsOf_0 rfl (lv_at hl 1 rfl) ?_
  refine z_callR (va_runS (As := [.int (nI (nb N))]) (rest := []) ⟨hx, hb, hml, hown, hts⟩ (c_V_digitCount l D dT _ (nI (nb N))) ⟨callB_of 1 hts (gI gd_up gd_c q212) rfl rfl rfl (ht _ q1) (ht _ q210) hd_V_digitCount ⟨Nat.le_of_ble_eq_true rfl, Nat.le_of_ble_eq_true rfl⟩, ht _ q211⟩ (z_preS hK) rfl rfl hl.1 rfl (lv_room (Nat.le_of_ble_eq_true rfl)) d_V_digitsOf_1 ⟨Nat.zero_le _, Nat.zero_le _⟩) (fun v2 hv1 => ?_)
  have hv1 : v2 = .int (nI ((nb N + 15) / 16)) := by rw [← dcnt (k := nb N) (by omega)]; exact hv1
  subst hv1
  have hSp := hS
  refine z_newi hx hb (ht _ q260) hK hS ((nb N + 15) / 16) rfl (by omega) (Nat.le_of_ble_eq_true rfl) (by show 0 + ((nb N + 15) / 16) ≤ 4; omega) d_V_digitsOf_4 (fun ad3 H hqad3 hzad3 oad3 hoad3 hS => ?_)
  have hgad3 : s.heap.size ≤ ad3 := by rw [hqad3]; exact hSp.1
  have hAad3 : (fun q => s.heap.size ≤ q) ad3 := hgad3
  have hgbad3 := Nat.le_trans hN.1 (Nat.le_of_eq hqad3.symm)
  have hN := hN.grew hzad3 hoad3
  refine lv_astore_n (lv' := [(3, .ref ad3), (0, .long x), (2, .int (nI (nb N)))]) hx hb d_V_digitsOf_6 rfl hl (by decide) rfl (fun ls hl => ?_)
  refine lv_iconst (v := 0) hx hb d_V_digitsOf_7 (by decide) ?_
  refine lv_istore (lv' := [(4, .int 0), (3, .ref ad3), (0, .long x), (2, .int (nI (nb N)))]) hx hb d_V_digitsOf_8 hl (by decide) rfl (fun ls hl => ?_)
  have loop4 : ∀ (n109 : Nat) (i : Nat), (i ≤ ((nb N + 15) / 16)) → (((nb N + 15) / 16)) - i < n109 → ∀ (H : Heap) (locs : List Loc) (g : Nat → Int32), (∀ j, j < i → j < ((nb N + 15) / 16) → g j = nI (N / 65536 ^ j % 65536)) → va_at D cls (ad3, .inl (dT 0, ((nb N + 15) / 16), .inl g)) H → nU s.heap H → va_S (fun q => s.heap.size ≤ q) s.heap H locs → ∀ (ls : Array Slot), lv_has ls 5 [(4, .int (nI i)), (3, .ref ad3), (0, .long x)] → W p l e (headSpec w_V_digitsOf ({ frames := 1, cells := 1, slots := 4, locals := 20 })).room s m [.long x, .int (nI (nb N))].toArray below meth c H locs (0 + 1) (0 + ((nb N + 15) / 16)) (MQ below (z_Q (fun q => s.heap.size ≤ q) (fun v H1 => ∃ q, v = some (.ref q) ∧ s.heap.size ≤ q ∧ va_at D cls (q, .inl (dT 0, ((nb N + 15) / 16), .inl (fun k => nI (N / 65536 ^ k % 65536)))) H1)) [.long x, .int (nI (nb N))].toArray s 1 4 (fun q => s.heap.size ≤ q)) (F0 m 10 ls []) := by
    intro n109
    induction n109 with
    | zero =>
      intro i hi h109
      exact absurd h109 (Nat.not_lt_zero _)
    | succ n109 ih10 =>
      intro i hi h109 H locs g hg oad3 hN hS ls hl
      refine lv_iload hx hb d_V_digitsOf_10 (lv_at hl 0 rfl) ?_
      refine lv_aload_n hx hb d_V_digitsOf_12 rfl (lv_at hl 1 rfl) ?_
      refine z_alen hx hb hK oad3 rfl d_V_digitsOf_13 ?_
      refine lv_icmp_ge (tgt := 38) hx hb d_V_digitsOf_14 (by decide) (fun c5 => ?_) (fun c5 => ?_)
      · have nc5 : ((nb N + 15) / 16) ≤ i := (nI_leI (a := ((nb N + 15) / 16)) (b := i) (by omega) (by omega)).mp c5
        refine lv_aload_n hx hb d_V_digitsOf_38 rfl (lv_at hl 1 rfl) ?_
        exact z_aretQ hx hb hr hlocks d_V_digitsOf_39 (Or.inr ⟨_, rfl⟩) (Or.inr ⟨_, rfl⟩) hS (Nat.le_of_ble_eq_true rfl) (by show 0 + ((nb N + 15) / 16) ≤ 4; omega) ⟨ad3, rfl, hgad3, at_exti oad3 (fun j hj => hg j (by omega) hj)⟩
      · have nc5 : ¬ ((nb N + 15) / 16) ≤ i := fun h9 => c5 ((nI_leI (a := ((nb N + 15) / 16)) (b := i) (by omega) (by omega)).mpr h9)
        refine lv_aload_n hx hb d_V_digitsOf_17 rfl (lv_at hl 1 rfl) ?_
        refine lv_iload hx hb d_V_digitsOf_18 (lv_at hl 0 rfl) ?_
        refine lv_lload_n hx hb d_V_digitsOf_20 rfl (lv_at hl 2 rfl) ?_
        refine lv_bipush (v := 16) hx hb d_V_digitsOf_21 (by decide) ?_
        refine lv_iload hx hb d_V_digitsOf_23 (lv_at hl 0 rfl) ?_
        refine lv_imul hx hb d_V_digitsOf_25 ?_
        rw [show ((16 * (nI i)) : Int32) = nI (16 * i) from pk_mul 16 i]
        refine lv_lushr (v := (x.toUInt64 >>> ((nI (16 * i)).toInt64.toUInt64 &&& Int64.toUInt64 63)).toInt64) hx hb d_V_digitsOf_26 rfl ?_
        refine lv_l2i (v := ((x.toUInt64 >>> ((nI (16 * i)).toInt64.toUInt64 &&& Int64.toUInt64 63)).toInt64).toInt32) hx hb d_V_digitsOf_27 rfl ?_
        refine lv_ldc (v := 65535) hx hb hown (hts (.constant "ValueTrees" 244 65535) (by decide +kernel)) d_V_digitsOf_28 ?_
        refine lv_iand hx hb d_V_digitsOf_30 ?_
        rw [show (((((x.toUInt64 >>> ((nI (16 * i)).toInt64.toUInt64 &&& Int64.toUInt64 63)).toInt64).toInt32) &&& 65535) : Int32) = nI (N / 65536 ^ i % 65536) from (by rw [show (65535 : Int32) = nI (2 ^ 16 - 1) from rfl, u64_low _ 16 (by decide), u64_shr x (by omega), p65, hN9])]
        refine z_ias hx hb hK hS hAad3 oad3 i rfl (by omega) (by omega) d_V_digitsOf_31 (fun H locs oad3 hz6 ho7 hS => ?_)
        have hN := hN.put hz6 ho7 hgbad3
        refine lv_iinc (v := (nI (i + 1))) (lv' := [(4, .int (nI (i + 1))), (3, .ref ad3), (0, .long x)]) hx hb d_V_digitsOf_32 hl (k := 0) rfl (nI_1 i) (by decide) rfl (fun ls hl => ?_)
        refine lv_goto (tgt := 10) hx hb d_V_digitsOf_35 (by decide) ?_
        exact ih10 (i + 1) (by omega) (by omega) _ _ _ (fun j hj hj2 => (Nat.lt_or_eq_of_le (Nat.le_of_lt_succ hj)).elim (fun h8 => by rw [upd_n (by omega)]; exact hg j h8 hj2) (fun e8 => by rw [e8, upd_s])) oad3 hN hS ls (lv_sub hl [0, 1, 2] rfl)
  exact loop4 (((nb N + 15) / 16) + 1) 0 (by omega) (by omega) _ _ _ (fun j h9 => absurd h9 (by omega)) oad3 hN hS ls (lv_sub hl [0, 1, 2] rfl)
abbrev b_V_shifted : ByteArray := prog_1_method_43_code
abbrev y_V_shifted : MethodName := ⟨"ValueTrees", "shifted", "([III)[I"⟩
abbrev w_V_shifted : List Cond := .code y_V_shifted b_V_shifted 9 (Option.some (.array .int)) :: gt
theorem hd_V_shifted : (y_V_shifted).cls ≠ "java/lang/invoke/MethodHandle" ∧ (y_V_shifted).cls ≠ "java/lang/invoke/VarHandle" ∧ (parseMethodDescriptor (y_V_shifted).desc).map (fun d => d.parameters.length) = some 3 := by decide +kernel
theorem d_V_shifted_0 : decode b_V_shifted 0 = .ok (.iload_n 2, 1) := by decide +kernel
theorem d_V_shifted_1 : decode b_V_shifted 1 = .ok (.invokestatic 241, 3) := by decide +kernel
theorem d_V_shifted_4 : decode b_V_shifted 4 = .ok (.newarray .int, 2) := by decide +kernel
theorem d_V_shifted_6 : decode b_V_shifted 6 = .ok (.astore_n 3, 1) := by decide +kernel
theorem d_V_shifted_7 : decode b_V_shifted 7 = .ok (.iload_n 1, 1) := by decide +kernel
theorem d_V_shifted_8 : decode b_V_shifted 8 = .ok (.bipush 16, 2) := by decide +kernel
theorem d_V_shifted_10 : decode b_V_shifted 10 = .ok (.idiv, 1) := by decide +kernel
theorem d_V_shifted_11 : decode b_V_shifted 11 = .ok (.istore 4, 2) := by decide +kernel
theorem d_V_shifted_13 : decode b_V_shifted 13 = .ok (.iload_n 1, 1) := by decide +kernel
theorem d_V_shifted_14 : decode b_V_shifted 14 = .ok (.bipush 16, 2) := by decide +kernel
theorem d_V_shifted_16 : decode b_V_shifted 16 = .ok (.irem, 1) := by decide +kernel
theorem d_V_shifted_17 : decode b_V_shifted 17 = .ok (.istore 5, 2) := by decide +kernel
theorem d_V_shifted_19 : decode b_V_shifted 19 = .ok (.iload 4, 2) := by decide +kernel
theorem d_V_shifted_21 : decode b_V_shifted 21 = .ok (.istore 6, 2) := by decide +kernel
theorem d_V_shifted_23 : decode b_V_shifted 23 = .ok (.iload 6, 2) := by decide +kernel
theorem d_V_shifted_25 : decode b_V_shifted 25 = .ok (.aload_n 3, 1) := by decide +kernel
theorem d_V_shifted_26 : decode b_V_shifted 26 = .ok (.arraylength, 1) := by decide +kernel
theorem d_V_shifted_27 : decode b_V_shifted 27 = .ok (.if_icmp .ge 87, 3) := by decide +kernel
theorem d_V_shifted_30 : decode b_V_shifted 30 = .ok (.iload 6, 2) := by decide +kernel
theorem d_V_shifted_32 : decode b_V_shifted 32 = .ok (.iload 4, 2) := by decide +kernel
theorem d_V_shifted_34 : decode b_V_shifted 34 = .ok (.isub, 1) := by decide +kernel
theorem d_V_shifted_35 : decode b_V_shifted 35 = .ok (.aload_n 0, 1) := by decide +kernel
theorem d_V_shifted_36 : decode b_V_shifted 36 = .ok (.arraylength, 1) := by decide +kernel
theorem d_V_shifted_37 : decode b_V_shifted 37 = .ok (.if_icmp .ge 16, 3) := by decide +kernel
theorem d_V_shifted_40 : decode b_V_shifted 40 = .ok (.aload_n 0, 1) := by decide +kernel
theorem d_V_shifted_41 : decode b_V_shifted 41 = .ok (.iload 6, 2) := by decide +kernel
theorem d_V_shifted_43 : decode b_V_shifted 43 = .ok (.iload 4, 2) := by decide +kernel
theorem d_V_shifted_45 : decode b_V_shifted 45 = .ok (.isub, 1) := by decide +kernel
theorem d_V_shifted_46 : decode b_V_shifted 46 = .ok (.iaload, 1) := by decide +kernel
theorem d_V_shifted_47 : decode b_V_shifted 47 = .ok (.iload 5, 2) := by decide +kernel
theorem d_V_shifted_49 : decode b_V_shifted 49 = .ok (.ishl, 1) := by decide +kernel
theorem d_V_shifted_50 : decode b_V_shifted 50 = .ok (.goto 4, 3) := by decide +kernel
theorem d_V_shifted_53 : decode b_V_shifted 53 = .ok (.iconst 0, 1) := by decide +kernel
theorem d_V_shifted_54 : decode b_V_shifted 54 = .ok (.istore 7, 2) := by decide +kernel
theorem d_V_shifted_56 : decode b_V_shifted 56 = .ok (.iload 6, 2) := by decide +kernel
theorem d_V_shifted_58 : decode b_V_shifted 58 = .ok (.iload 4, 2) := by decide +kernel
theorem d_V_shifted_60 : decode b_V_shifted 60 = .ok (.if_icmp .le 33, 3) := by decide +kernel
theorem d_V_shifted_63 : decode b_V_shifted 63 = .ok (.iload 6, 2) := by decide +kernel
theorem d_V_shifted_65 : decode b_V_shifted 65 = .ok (.iload 4, 2) := by decide +kernel
theorem d_V_shifted_67 : decode b_V_shifted 67 = .ok (.isub, 1) := by decide +kernel
theorem d_V_shifted_68 : decode b_V_shifted 68 = .ok (.iconst 1, 1) := by decide +kernel
theorem d_V_shifted_69 : decode b_V_shifted 69 = .ok (.isub, 1) := by decide +kernel
theorem d_V_shifted_70 : decode b_V_shifted 70 = .ok (.aload_n 0, 1) := by decide +kernel
theorem d_V_shifted_71 : decode b_V_shifted 71 = .ok (.arraylength, 1) := by decide +kernel
theorem d_V_shifted_72 : decode b_V_shifted 72 = .ok (.if_icmp .ge 21, 3) := by decide +kernel
theorem d_V_shifted_75 : decode b_V_shifted 75 = .ok (.aload_n 0, 1) := by decide +kernel
theorem d_V_shifted_76 : decode b_V_shifted 76 = .ok (.iload 6, 2) := by decide +kernel
theorem d_V_shifted_78 : decode b_V_shifted 78 = .ok (.iload 4, 2) := by decide +kernel
theorem d_V_shifted_80 : decode b_V_shifted 80 = .ok (.isub, 1) := by decide +kernel
theorem d_V_shifted_81 : decode b_V_shifted 81 = .ok (.iconst 1, 1) := by decide +kernel
theorem d_V_shifted_82 : decode b_V_shifted 82 = .ok (.isub, 1) := by decide +kernel
theorem d_V_shifted_83 : decode b_V_shifted 83 = .ok (.iaload, 1) := by decide +kernel
theorem d_V_shifted_84 : decode b_V_shifted 84 = .ok (.iload 5, 2) := by decide +kernel
theorem d_V_shifted_86 : decode b_V_shifted 86 = .ok (.ishl, 1) := by decide +kernel
theorem d_V_shifted_87 : decode b_V_shifted 87 = .ok (.bipush 16, 2) := by decide +kernel
theorem d_V_shifted_89 : decode b_V_shifted 89 = .ok (.iushr, 1) := by decide +kernel
theorem d_V_shifted_90 : decode b_V_shifted 90 = .ok (.goto 4, 3) := by decide +kernel
theorem d_V_shifted_93 : decode b_V_shifted 93 = .ok (.iconst 0, 1) := by decide +kernel
theorem d_V_shifted_94 : decode b_V_shifted 94 = .ok (.istore 8, 2) := by decide +kernel
theorem d_V_shifted_96 : decode b_V_shifted 96 = .ok (.aload_n 3, 1) := by decide +kernel
theorem d_V_shifted_97 : decode b_V_shifted 97 = .ok (.iload 6, 2) := by decide +kernel
theorem d_V_shifted_99 : decode b_V_shifted 99 = .ok (.iload 7, 2) := by decide +kernel
theorem d_V_shifted_101 : decode b_V_shifted 101 = .ok (.ldc 244, 2) := by decide +kernel
theorem d_V_shifted_103 : decode b_V_shifted 103 = .ok (.iand, 1) := by decide +kernel
theorem d_V_shifted_104 : decode b_V_shifted 104 = .ok (.iload 8, 2) := by decide +kernel
theorem d_V_shifted_106 : decode b_V_shifted 106 = .ok (.ior, 1) := by decide +kernel
theorem d_V_shifted_107 : decode b_V_shifted 107 = .ok (.iastore, 1) := by decide +kernel
theorem d_V_shifted_108 : decode b_V_shifted 108 = .ok (.iinc 6 1, 3) := by decide +kernel
theorem d_V_shifted_111 : decode b_V_shifted 111 = .ok (.goto (-88), 3) := by decide +kernel
theorem d_V_shifted_114 : decode b_V_shifted 114 = .ok (.aload_n 3, 1) := by decide +kernel
theorem d_V_shifted_115 : decode b_V_shifted 115 = .ok (.areturn, 1) := by decide +kernel
set_option maxHeartbeats 4000000 in
set_option maxRecDepth 100000 in
theorem c_V_shifted (l : Launch) (D : va_G) (dT : Nat → ClassId) (H : Heap) (N nn kb d : Nat) (od : va_at D cls (d, .inl (dT 0, (nb N + 15) / 16, .inl (fun k => nI (N / 65536 ^ k % 65536)))) H) (hnn : nn ≤ 1000) (hkb : nb (N * 2 ^ nn) = kb) (hkb2 : kb ≤ 1024) (hnN : nb N ≤ 1024) : Met l y_V_shifted w_V_shifted ({ frames := 1, cells := 1, slots := 64, locals := 20 }) (z_P D dT [.ref d, .int (nI nn), .int (nI kb)] H) (z_Q (fun q => H.size ≤ q) (fun v H1 => ∃ q, v = some (.ref q) ∧ H.size ≤ q ∧ va_at D cls (q, .inl (dT 0, ((kb + 15) / 16), .inl (fun k => nI ((N * 2 ^ nn) / 65536 ^ k % 65536)))) H1)) 1 64 (fun q => H.size ≤ q) := by
  refine Met.ofW (cc := b_V_shifted) (maxL := 9) (ret := (Option.some (.array .int))) (by decide) rfl ?_
  intro p e s m args below meth c s₁ B hml hv
  obtain ⟨rfl, rfl, hK⟩ := hv
  have hx := B.exec
  have hb := B.bytes
  have hr := B.returns
  have hts := atoms_spec (ws := w_V_shifted) B.pre
  have ht : ∀ w9 ∈ gt, w9.before [.ref d, .int (nI nn), .int (nI kb)].toArray s = true := fun w9 h => hts w9 (List.mem_cons_of_mem _ h)
  have hown : s.vm.findClass "ValueTrees" = some m.cls := findClass_of_methodNamed B.named
  have hlocks := B.notSynchronized
  have hS : va_S (fun q => s.heap.size ≤ q) s.heap s.heap [] := va_S.rf
  have hl := lv_entry ([.ref d, .int (nI nn), .int (nI kb)]) (n := 9) (Nat.le_of_ble_eq_true rfl)
  rw [lg_entry_eq]
  generalize (lg_sl ([.ref d, .int (nI nn), .int (nI kb)]) ++ List.replicate (9 - (lg_sl ([.ref d, .int (nI nn), .int (nI kb)])).length) Slot.unset).toArray = ls at hl ⊢
  have hl : lv_has ls 9 [(0, .ref d), (1, .int (nI nn)), (2, .int (nI kb))] := hl
  have hN : nU s.heap s.heap := nU.rf
  refine lv_iload_n hx hb d_V_shifted_0 rfl (lv_at hl 2 rfl) ?_
  refine z_callR (va_runS (As := [.int (nI kb)]) (rest := []) ⟨hx, hb, hml, hown, hts⟩ (c_V_digitCount l D dT _ (nI kb)) ⟨callB_of 1 hts (gI gd_up gd_c q212) rfl rfl rfl (ht _ q1) (ht _ q210) hd_V_digitCount ⟨Nat.le_of_ble_eq_true rfl, Nat.le_of_ble_eq_true rfl⟩, ht _ q211⟩ (z_preS hK) rfl rfl hl.1 rfl (lv_room (Nat.le_of_ble_eq_true rfl)) d_V_shifted_1 ⟨Nat.zero_le _, Nat.zero_le _⟩) (fun v2 hv1 => ?_)
  have hv1 : v2 = .int (nI ((kb + 15) / 16)) := by rw [← dcnt (k := kb) (by omega)]; exact hv1
  subst hv1
  have hSp := hS
  refine z_newi hx hb (ht _ q260) hK hS ((kb + 15) / 16) rfl (by omega) (Nat.le_of_ble_eq_true rfl) (by show 0 + ((kb + 15) / 16) ≤ 64; omega) d_V_shifted_4 (fun ad3 H hqad3 hzad3 oad3 hoad3 hS => ?_)
  have hgad3 : s.heap.size ≤ ad3 := by rw [hqad3]; exact hSp.1
  have hAad3 : (fun q => s.heap.size ≤ q) ad3 := hgad3
  have hgbad3 := Nat.le_trans hN.1 (Nat.le_of_eq hqad3.symm)
  have hN := hN.grew hzad3 hoad3
  refine lv_astore_n (lv' := [(3, .ref ad3), (0, .ref d), (1, .int (nI nn)), (2, .int (nI kb))]) hx hb d_V_shifted_6 rfl hl (by decide) rfl (fun ls hl => ?_)
  refine lv_iload_n hx hb d_V_shifted_7 rfl (lv_at hl 2 rfl) ?_
  refine lv_bipush (v := 16) hx hb d_V_shifted_8 (by decide) ?_
  refine lv_idiv hx hb d_V_shifted_10 (by decide) ?_
  rw [show (((nI nn) / 16) : Int32) = nI (nn / 16) from pk_div (a := nn) (d := 16) (by omega) (by decide) (by decide)]
  refine lv_istore (lv' := [(4, .int (nI (nn / 16))), (3, .ref ad3), (0, .ref d), (1, .int (nI nn)), (2, .int (nI kb))]) hx hb d_V_shifted_11 hl (by decide) rfl (fun ls hl => ?_)
  refine lv_iload_n hx hb d_V_shifted_13 rfl (lv_at hl 3 rfl) ?_
  refine lv_bipush (v := 16) hx hb d_V_shifted_14 (by decide) ?_
  refine lv_irem hx hb d_V_shifted_16 (by decide) ?_
  rw [show (((nI nn) - (nI nn) / 16 * 16) : Int32) = nI (nn % 16) from pk_rem (a := nn) (d := 16) (by omega) (by decide) (by decide)]
  refine lv_istore (lv' := [(5, .int (nI (nn % 16))), (4, .int (nI (nn / 16))), (3, .ref ad3), (0, .ref d), (1, .int (nI nn)), (2, .int (nI kb))]) hx hb d_V_shifted_17 hl (by decide) rfl (fun ls hl => ?_)
  refine lv_iload hx hb d_V_shifted_19 (lv_at hl 1 rfl) ?_
  refine lv_istore (lv' := [(6, .int (nI (nn / 16))), (5, .int (nI (nn % 16))), (4, .int (nI (nn / 16))), (3, .ref ad3), (0, .ref d), (1, .int (nI nn)), (2, .int (nI kb))]) hx hb d_V_shifted_21 hl (by decide) rfl (fun ls hl => ?_)
  have loop4 : ∀ (n239 : Nat) (i : Nat), (nn / 16 ≤ i ∧ i ≤ 2000) → (((kb + 15) / 16)) - i < n239 → ∀ (H : Heap) (locs : List Loc) (g : Nat → Int32), (∀ j, j < i → j < ((kb + 15) / 16) → g j = nI ((N * 2 ^ nn) / 65536 ^ j % 65536)) → va_at D cls (ad3, .inl (dT 0, ((kb + 15) / 16), .inl g)) H → nU s.heap H → va_S (fun q => s.heap.size ≤ q) s.heap H locs → ∀ (ls : Array Slot), lv_has ls 9 [(6, .int (nI i)), (3, .ref ad3), (0, .ref d), (4, .int (nI (nn / 16))), (5, .int (nI (nn % 16)))] → W p l e (headSpec w_V_shifted ({ frames := 1, cells := 1, slots := 64, locals := 20 })).room s m [.ref d, .int (nI nn), .int (nI kb)].toArray below meth c H locs (0 + 1) (0 + ((kb + 15) / 16)) (MQ below (z_Q (fun q => s.heap.size ≤ q) (fun v H1 => ∃ q, v = some (.ref q) ∧ s.heap.size ≤ q ∧ va_at D cls (q, .inl (dT 0, ((kb + 15) / 16), .inl (fun k => nI ((N * 2 ^ nn) / 65536 ^ k % 65536)))) H1)) [.ref d, .int (nI nn), .int (nI kb)].toArray s 1 64 (fun q => s.heap.size ≤ q)) (F0 m 23 ls []) := by
    intro n239
    induction n239 with
    | zero =>
      intro i hi h239
      exact absurd h239 (Nat.not_lt_zero _)
    | succ n239 ih23 =>
      intro i hi h239 H locs g hg oad3 hN hS ls hl
      refine lv_iload hx hb d_V_shifted_23 (lv_at hl 0 rfl) ?_
      refine lv_aload_n hx hb d_V_shifted_25 rfl (lv_at hl 1 rfl) ?_
      refine z_alen hx hb hK oad3 rfl d_V_shifted_26 ?_
      refine lv_icmp_ge (tgt := 114) hx hb d_V_shifted_27 (by decide) (fun c5 => ?_) (fun c5 => ?_)
      · have nc5 : ((kb + 15) / 16) ≤ i := (nI_leI (a := ((kb + 15) / 16)) (b := i) (by omega) (by omega)).mp c5
        refine lv_aload_n hx hb d_V_shifted_114 rfl (lv_at hl 1 rfl) ?_
        exact z_aretQ hx hb hr hlocks d_V_shifted_115 (Or.inr ⟨_, rfl⟩) (Or.inr ⟨_, rfl⟩) hS (Nat.le_of_ble_eq_true rfl) (by show 0 + ((kb + 15) / 16) ≤ 64; omega) ⟨ad3, rfl, hgad3, at_exti oad3 (fun j hj => hg j (by omega) hj)⟩
      · have nc5 : ¬ ((kb + 15) / 16) ≤ i := fun h9 => c5 ((nI_leI (a := ((kb + 15) / 16)) (b := i) (by omega) (by omega)).mpr h9)
        have hr16 : nn % 16 < 16 := Nat.mod_lt _ (by decide)
        have hdq : N / 65536 ^ (i - (nn / 16)) % 65536 < 65536 := Nat.mod_lt _ (by decide)
        have hdp : N / 65536 ^ (i - (nn / 16) - 1) % 65536 < 65536 := Nat.mod_lt _ (by decide)
        have hhq := hi_lt hdq hr16
        have hhp := hi_lt hdp hr16
        refine lv_iload hx hb d_V_shifted_30 (lv_at hl 0 rfl) ?_
        refine lv_iload hx hb d_V_shifted_32 (lv_at hl 3 rfl) ?_
        refine lv_isub hx hb d_V_shifted_34 ?_
        rw [show (((nI i) - (nI (nn / 16))) : Int32) = nI (i - (nn / 16)) from pk_sub (a := i) (b := (nn / 16)) (by omega)]
        refine lv_aload_n hx hb d_V_shifted_35 rfl (lv_at hl 2 rfl) ?_
        refine z_alen hx hb hK (od.grew hN.2) rfl d_V_shifted_36 ?_
        refine lv_icmp_ge (tgt := 53) hx hb d_V_shifted_37 (by decide) (fun c6 => ?_) (fun c6 => ?_)
        · have nc6 : ((nb N + 15) / 16) ≤ (i - (nn / 16)) := (nI_leI (a := ((nb N + 15) / 16)) (b := (i - (nn / 16))) (by omega) (by omega)).mp c6
          refine lv_iconst (v := 0) hx hb d_V_shifted_53 (by decide) ?_
          have hd0 : N / 65536 ^ (i - (nn / 16)) % 65536 = 0 := dig_00 (by omega)
          rw [show (0 : Int32) = nI (N / 65536 ^ (i - (nn / 16)) % 65536 * 2 ^ (nn % 16)) by rw [hd0, Nat.zero_mul]; rfl]
          refine lv_istore (lv' := [(7, .int (nI (N / 65536 ^ (i - (nn / 16)) % 65536 * 2 ^ (nn % 16)))), (6, .int (nI i)), (3, .ref ad3), (0, .ref d), (4, .int (nI (nn / 16))), (5, .int (nI (nn % 16)))]) hx hb d_V_shifted_54 hl (by decide) rfl (fun ls hl => ?_)
          refine lv_iload hx hb d_V_shifted_56 (lv_at hl 1 rfl) ?_
          refine lv_iload hx hb d_V_shifted_58 (lv_at hl 4 rfl) ?_
          refine lv_icmp_le (tgt := 93) hx hb d_V_shifted_60 (by decide) (fun c7 => ?_) (fun c7 => ?_)
          · have nc7 : i ≤ (nn / 16) := (nI_leI (a := i) (b := (nn / 16)) (by omega) (by omega)).mp c7
            refine lv_iconst (v := 0) hx hb d_V_shifted_93 (by decide) ?_
            refine lv_istore (lv' := [(8, .int 0), (7, .int (nI (N / 65536 ^ (i - (nn / 16)) % 65536 * 2 ^ (nn % 16)))), (6, .int (nI i)), (3, .ref ad3), (0, .ref d), (4, .int (nI (nn / 16))), (5, .int (nI (nn % 16)))]) hx hb d_V_shifted_94 hl (by decide) rfl (fun ls hl => ?_)
            refine lv_aload_n hx hb d_V_shifted_96 rfl (lv_at hl 3 rfl) ?_
            refine lv_iload hx hb d_V_shifted_97 (lv_at hl 2 rfl) ?_
            refine lv_iload hx hb d_V_shifted_99 (lv_at hl 1 rfl) ?_
            refine lv_ldc (v := 65535) hx hb hown (hts (.constant "ValueTrees" 244 65535) (by decide +kernel)) d_V_shifted_101 ?_
            refine lv_iand hx hb d_V_shifted_103 ?_
            rw [show (((nI (N / 65536 ^ (i - (nn / 16)) % 65536 * 2 ^ (nn % 16))) &&& 65535) : Int32) = nI (N / 65536 ^ (i - (nn / 16)) % 65536 % 2 ^ (16 - (nn % 16)) * 2 ^ (nn % 16)) from sh_hi hr16 hdq]
            refine lv_iload hx hb d_V_shifted_104 (lv_at hl 0 rfl) ?_
            refine lv_ior hx hb d_V_shifted_106 ?_
            rw [show (((nI (N / 65536 ^ (i - (nn / 16)) % 65536 % 2 ^ (16 - (nn % 16)) * 2 ^ (nn % 16))) ||| 0) : Int32) = nI (N / 65536 ^ (i - (nn / 16)) % 65536 % 2 ^ (16 - (nn % 16)) * 2 ^ (nn % 16)) from or_0 _]
            refine z_ias hx hb hK hS hAad3 oad3 i rfl (by omega) (by omega) d_V_shifted_107 (fun H locs oad3 hz8 ho9 hS => ?_)
            have hN := hN.put hz8 ho9 hgbad3
            refine lv_iinc (v := (nI (i + 1))) (lv' := [(6, .int (nI (i + 1))), (8, .int 0), (7, .int (nI (N / 65536 ^ (i - (nn / 16)) % 65536 * 2 ^ (nn % 16)))), (3, .ref ad3), (0, .ref d), (4, .int (nI (nn / 16))), (5, .int (nI (nn % 16)))]) hx hb d_V_shifted_108 hl (k := 2) rfl (nI_1 i) (by decide) rfl (fun ls hl => ?_)
            refine lv_goto (tgt := 23) hx hb d_V_shifted_111 (by decide) ?_
            exact ih23 (i + 1) (by omega) (by omega) _ _ _ (fun j hj hj2 => (Nat.lt_or_eq_of_le (Nat.le_of_lt_succ hj)).elim (fun h8 => by rw [upd_n (by omega)]; exact hg j h8 hj2) (fun e8 => by rw [e8, upd_s]; rw [show i - (nn / 16) = 0 by omega, show i = nn / 16 by omega, sh_dig0])) oad3 hN hS ls (lv_sub hl [0, 3, 4, 5, 6] rfl)
          · have nc7 : ¬ i ≤ (nn / 16) := fun h9 => c7 ((nI_leI (a := i) (b := (nn / 16)) (by omega) (by omega)).mpr h9)
            refine lv_iload hx hb d_V_shifted_63 (lv_at hl 1 rfl) ?_
            refine lv_iload hx hb d_V_shifted_65 (lv_at hl 4 rfl) ?_
            refine lv_isub hx hb d_V_shifted_67 ?_
            rw [show (((nI i) - (nI (nn / 16))) : Int32) = nI (i - (nn / 16)) from pk_sub (a := i) (b := (nn / 16)) (by omega)]
            refine lv_iconst (v := 1) hx hb d_V_shifted_68 (by decide) ?_
            refine lv_isub hx hb d_V_shifted_69 ?_
            rw [show (((nI (i - (nn / 16))) - 1) : Int32) = nI ((i - (nn / 16)) - 1) from pk_sub (a := (i - (nn / 16))) (b := 1) (by omega)]
            refine lv_aload_n hx hb d_V_shifted_70 rfl (lv_at hl 3 rfl) ?_
            refine z_alen hx hb hK (od.grew hN.2) rfl d_V_shifted_71 ?_
            refine lv_icmp_ge (tgt := 93) hx hb d_V_shifted_72 (by decide) (fun c10 => ?_) (fun c10 => ?_)
            · have nc10 : ((nb N + 15) / 16) ≤ ((i - (nn / 16)) - 1) := (nI_leI (a := ((nb N + 15) / 16)) (b := ((i - (nn / 16)) - 1)) (by omega) (by omega)).mp c10
              refine lv_iconst (v := 0) hx hb d_V_shifted_93 (by decide) ?_
              have hd1 : N / 65536 ^ (i - (nn / 16) - 1) % 65536 = 0 := dig_00 (by omega)
              rw [show (0 : Int32) = nI (N / 65536 ^ (i - (nn / 16) - 1) % 65536 * 2 ^ (nn % 16) / 65536) by rw [hd1, Nat.zero_mul]; rfl]
              refine lv_istore (lv' := [(8, .int (nI (N / 65536 ^ (i - (nn / 16) - 1) % 65536 * 2 ^ (nn % 16) / 65536))), (7, .int (nI (N / 65536 ^ (i - (nn / 16)) % 65536 * 2 ^ (nn % 16)))), (6, .int (nI i)), (3, .ref ad3), (0, .ref d), (4, .int (nI (nn / 16))), (5, .int (nI (nn % 16)))]) hx hb d_V_shifted_94 hl (by decide) rfl (fun ls hl => ?_)
              refine lv_aload_n hx hb d_V_shifted_96 rfl (lv_at hl 3 rfl) ?_
              refine lv_iload hx hb d_V_shifted_97 (lv_at hl 2 rfl) ?_
              refine lv_iload hx hb d_V_shifted_99 (lv_at hl 1 rfl) ?_
              refine lv_ldc (v := 65535) hx hb hown (hts (.constant "ValueTrees" 244 65535) (by decide +kernel)) d_V_shifted_101 ?_
              refine lv_iand hx hb d_V_shifted_103 ?_
              rw [show (((nI (N / 65536 ^ (i - (nn / 16)) % 65536 * 2 ^ (nn % 16))) &&& 65535) : Int32) = nI (N / 65536 ^ (i - (nn / 16)) % 65536 % 2 ^ (16 - (nn % 16)) * 2 ^ (nn % 16)) from sh_hi hr16 hdq]
              refine lv_iload hx hb d_V_shifted_104 (lv_at hl 0 rfl) ?_
              refine lv_ior hx hb d_V_shifted_106 ?_
              rw [show (((nI (N / 65536 ^ (i - (nn / 16)) % 65536 % 2 ^ (16 - (nn % 16)) * 2 ^ (nn % 16))) ||| (nI (N / 65536 ^ (i - (nn / 16) - 1) % 65536 * 2 ^ (nn % 16) / 65536))) : Int32) = nI (N / 65536 ^ (i - (nn / 16)) % 65536 % 2 ^ (16 - (nn % 16)) * 2 ^ (nn % 16) + N / 65536 ^ (i - (nn / 16) - 1) % 65536 / 2 ^ (16 - (nn % 16))) from (by rw [sh_lo hr16]; exact nI_or_r (lo_lt hdp hr16))]
              refine z_ias hx hb hK hS hAad3 oad3 i rfl (by omega) (by omega) d_V_shifted_107 (fun H locs oad3 hz11 ho12 hS => ?_)
              have hN := hN.put hz11 ho12 hgbad3
              refine lv_iinc (v := (nI (i + 1))) (lv' := [(6, .int (nI (i + 1))), (8, .int (nI (N / 65536 ^ (i - (nn / 16) - 1) % 65536 * 2 ^ (nn % 16) / 65536))), (7, .int (nI (N / 65536 ^ (i - (nn / 16)) % 65536 * 2 ^ (nn % 16)))), (3, .ref ad3), (0, .ref d), (4, .int (nI (nn / 16))), (5, .int (nI (nn % 16)))]) hx hb d_V_shifted_108 hl (k := 2) rfl (nI_1 i) (by decide) rfl (fun ls hl => ?_)
              refine lv_goto (tgt := 23) hx hb d_V_shifted_111 (by decide) ?_
              exact ih23 (i + 1) (by omega) (by omega) _ _ _ (fun j hj hj2 => (Nat.lt_or_eq_of_le (Nat.le_of_lt_succ hj)).elim (fun h8 => by rw [upd_n (by omega)]; exact hg j h8 hj2) (fun e8 => by rw [e8, upd_s]; obtain ⟨q, rfl⟩ : ∃ q, i = nn / 16 + (q + 1) := ⟨i - nn / 16 - 1, by omega⟩; rw [sh_dig, show nn / 16 + (q + 1) - nn / 16 = q + 1 by omega, show q + 1 - 1 = q by omega])) oad3 hN hS ls (lv_sub hl [0, 3, 4, 5, 6] rfl)
            · have nc10 : ¬ ((nb N + 15) / 16) ≤ ((i - (nn / 16)) - 1) := fun h9 => c10 ((nI_leI (a := ((nb N + 15) / 16)) (b := ((i - (nn / 16)) - 1)) (by omega) (by omega)).mpr h9)
              refine lv_aload_n hx hb d_V_shifted_75 rfl (lv_at hl 3 rfl) ?_
              refine lv_iload hx hb d_V_shifted_76 (lv_at hl 1 rfl) ?_
              refine lv_iload hx hb d_V_shifted_78 (lv_at hl 4 rfl) ?_
              refine lv_isub hx hb d_V_shifted_80 ?_
              rw [show (((nI i) - (nI (nn / 16))) : Int32) = nI (i - (nn / 16)) from pk_sub (a := i) (b := (nn / 16)) (by omega)]
              refine lv_iconst (v := 1) hx hb d_V_shifted_81 (by decide) ?_
              refine lv_isub hx hb d_V_shifted_82 ?_
              rw [show (((nI (i - (nn / 16))) - 1) : Int32) = nI ((i - (nn / 16)) - 1) from pk_sub (a := (i - (nn / 16))) (b := 1) (by omega)]
              refine z_iald hx hb hK (od.grew hN.2) ((i - (nn / 16)) - 1) rfl (by omega) (by omega) d_V_shifted_83 ?_
              refine lv_iload hx hb d_V_shifted_84 (lv_at hl 5 rfl) ?_
              refine lv_ishl hx hb d_V_shifted_86 ?_
              rw [show (((nI (N / 65536 ^ ((i - (nn / 16)) - 1) % 65536)) <<< ((nI (nn % 16)) &&& 31)) : Int32) = nI (N / 65536 ^ (i - (nn / 16) - 1) % 65536 * 2 ^ (nn % 16)) from nI_shlr (n := N / 65536 ^ (i - (nn / 16) - 1) % 65536) (r := (nn % 16)) (by omega) (Nat.lt_trans (hi_lt hdp hr16) (by decide))]
              refine lv_bipush (v := 16) hx hb d_V_shifted_87 (by decide) ?_
              refine lv_iushr (v := ((nI (N / 65536 ^ (i - (nn / 16) - 1) % 65536 * 2 ^ (nn % 16))).toUInt32 >>> (((16 : Int32)).toUInt32 &&& Int32.toUInt32 31)).toInt32) hx hb d_V_shifted_89 rfl ?_
              rw [show (((nI (N / 65536 ^ (i - (nn / 16) - 1) % 65536 * 2 ^ (nn % 16))).toUInt32 >>> (((16 : Int32)).toUInt32 &&& Int32.toUInt32 31)).toInt32 : Int32) = nI (N / 65536 ^ (i - (nn / 16) - 1) % 65536 * 2 ^ (nn % 16) / 65536) from iushr16 (by omega)]
              refine lv_goto (tgt := 94) hx hb d_V_shifted_90 (by decide) ?_
              refine lv_istore (lv' := [(8, .int (nI (N / 65536 ^ (i - (nn / 16) - 1) % 65536 * 2 ^ (nn % 16) / 65536))), (7, .int (nI (N / 65536 ^ (i - (nn / 16)) % 65536 * 2 ^ (nn % 16)))), (6, .int (nI i)), (3, .ref ad3), (0, .ref d), (4, .int (nI (nn / 16))), (5, .int (nI (nn % 16)))]) hx hb d_V_shifted_94 hl (by decide) rfl (fun ls hl => ?_)
              refine lv_aload_n hx hb d_V_shifted_96 rfl (lv_at hl 3 rfl) ?_
              refine lv_iload hx hb d_V_shifted_97 (lv_at hl 2 rfl) ?_
              refine lv_iload hx hb d_V_shifted_99 (lv_at hl 1 rfl) ?_
              refine lv_ldc (v := 65535) hx hb hown (hts (.constant "ValueTrees" 244 65535) (by decide +kernel)) d_V_shifted_101 ?_
              refine lv_iand hx hb d_V_shifted_103 ?_
              rw [show (((nI (N / 65536 ^ (i - (nn / 16)) % 65536 * 2 ^ (nn % 16))) &&& 65535) : Int32) = nI (N / 65536 ^ (i - (nn / 16)) % 65536 % 2 ^ (16 - (nn % 16)) * 2 ^ (nn % 16)) from sh_hi hr16 hdq]
              refine lv_iload hx hb d_V_shifted_104 (lv_at hl 0 rfl) ?_
              refine lv_ior hx hb d_V_shifted_106 ?_
              rw [show (((nI (N / 65536 ^ (i - (nn / 16)) % 65536 % 2 ^ (16 - (nn % 16)) * 2 ^ (nn % 16))) ||| (nI (N / 65536 ^ (i - (nn / 16) - 1) % 65536 * 2 ^ (nn % 16) / 65536))) : Int32) = nI (N / 65536 ^ (i - (nn / 16)) % 65536 % 2 ^ (16 - (nn % 16)) * 2 ^ (nn % 16) + N / 65536 ^ (i - (nn / 16) - 1) % 65536 / 2 ^ (16 - (nn % 16))) from (by rw [sh_lo hr16]; exact nI_or_r (lo_lt hdp hr16))]
              refine z_ias hx hb hK hS hAad3 oad3 i rfl (by omega) (by omega) d_V_shifted_107 (fun H locs oad3 hz13 ho14 hS => ?_)
              have hN := hN.put hz13 ho14 hgbad3
              refine lv_iinc (v := (nI (i + 1))) (lv' := [(6, .int (nI (i + 1))), (8, .int (nI (N / 65536 ^ (i - (nn / 16) - 1) % 65536 * 2 ^ (nn % 16) / 65536))), (7, .int (nI (N / 65536 ^ (i - (nn / 16)) % 65536 * 2 ^ (nn % 16)))), (3, .ref ad3), (0, .ref d), (4, .int (nI (nn / 16))), (5, .int (nI (nn % 16)))]) hx hb d_V_shifted_108 hl (k := 2) rfl (nI_1 i) (by decide) rfl (fun ls hl => ?_)
              refine lv_goto (tgt := 23) hx hb d_V_shifted_111 (by decide) ?_
              exact ih23 (i + 1) (by omega) (by omega) _ _ _ (fun j hj hj2 => (Nat.lt_or_eq_of_le (Nat.le_of_lt_succ hj)).elim (fun h8 => by rw [upd_n (by omega)]; exact hg j h8 hj2) (fun e8 => by rw [e8, upd_s]; obtain ⟨q, rfl⟩ : ∃ q, i = nn / 16 + (q + 1) := ⟨i - nn / 16 - 1, by omega⟩; rw [sh_dig, show nn / 16 + (q + 1) - nn / 16 = q + 1 by omega, show q + 1 - 1 = q by omega])) oad3 hN hS ls (lv_sub hl [0, 3, 4, 5, 6] rfl)
        · have nc6 : ¬ ((nb N + 15) / 16) ≤ (i - (nn / 16)) := fun h9 => c6 ((nI_leI (a := ((nb N + 15) / 16)) (b := (i - (nn / 16))) (by omega) (by omega)).mpr h9)
          refine lv_aload_n hx hb d_V_shifted_40 rfl (lv_at hl 2 rfl) ?_
          refine lv_iload hx hb d_V_shifted_41 (lv_at hl 0 rfl) ?_
          refine lv_iload hx hb d_V_shifted_43 (lv_at hl 3 rfl) ?_
          refine lv_isub hx hb d_V_shifted_45 ?_
          rw [show (((nI i) - (nI (nn / 16))) : Int32) = nI (i - (nn / 16)) from pk_sub (a := i) (b := (nn / 16)) (by omega)]
          refine z_iald hx hb hK (od.grew hN.2) (i - (nn / 16)) rfl (by omega) (by omega) d_V_shifted_46 ?_
          refine lv_iload hx hb d_V_shifted_47 (lv_at hl 4 rfl) ?_
          refine lv_ishl hx hb d_V_shifted_49 ?_
          rw [show (((nI (N / 65536 ^ (i - (nn / 16)) % 65536)) <<< ((nI (nn % 16)) &&& 31)) : Int32) = nI (N / 65536 ^ (i - (nn / 16)) % 65536 * 2 ^ (nn % 16)) from nI_shlr (n := N / 65536 ^ (i - (nn / 16)) % 65536) (r := (nn % 16)) (by omega) (Nat.lt_trans (hi_lt hdq hr16) (by decide))]
          refine lv_goto (tgt := 54) hx hb d_V_shifted_50 (by decide) ?_
          refine lv_istore (lv' := [(7, .int (nI (N / 65536 ^ (i - (nn / 16)) % 65536 * 2 ^ (nn % 16)))), (6, .int (nI i)), (3, .ref ad3), (0, .ref d), (4, .int (nI (nn / 16))), (5, .int (nI (nn % 16)))]) hx hb d_V_shifted_54 hl (by decide) rfl (fun ls hl => ?_)
          refine lv_iload hx hb d_V_shifted_56 (lv_at hl 1 rfl) ?_
          refine lv_iload hx hb d_V_shifted_58 (lv_at hl 4 rfl) ?_
          refine lv_icmp_le (tgt := 93) hx hb d_V_shifted_60 (by decide) (fun c15 => ?_) (fun c15 => ?_)
          · have nc15 : i ≤ (nn / 16) := (nI_leI (a := i) (b := (nn / 16)) (by omega) (by omega)).mp c15
            refine lv_iconst (v := 0) hx hb d_V_shifted_93 (by decide) ?_
            refine lv_istore (lv' := [(8, .int 0), (7, .int (nI (N / 65536 ^ (i - (nn / 16)) % 65536 * 2 ^ (nn % 16)))), (6, .int (nI i)), (3, .ref ad3), (0, .ref d), (4, .int (nI (nn / 16))), (5, .int (nI (nn % 16)))]) hx hb d_V_shifted_94 hl (by decide) rfl (fun ls hl => ?_)
            refine lv_aload_n hx hb d_V_shifted_96 rfl (lv_at hl 3 rfl) ?_
            refine lv_iload hx hb d_V_shifted_97 (lv_at hl 2 rfl) ?_
            refine lv_iload hx hb d_V_shifted_99 (lv_at hl 1 rfl) ?_
            refine lv_ldc (v := 65535) hx hb hown (hts (.constant "ValueTrees" 244 65535) (by decide +kernel)) d_V_shifted_101 ?_
            refine lv_iand hx hb d_V_shifted_103 ?_
            rw [show (((nI (N / 65536 ^ (i - (nn / 16)) % 65536 * 2 ^ (nn % 16))) &&& 65535) : Int32) = nI (N / 65536 ^ (i - (nn / 16)) % 65536 % 2 ^ (16 - (nn % 16)) * 2 ^ (nn % 16)) from sh_hi hr16 hdq]
            refine lv_iload hx hb d_V_shifted_104 (lv_at hl 0 rfl) ?_
            refine lv_ior hx hb d_V_shifted_106 ?_
            rw [show (((nI (N / 65536 ^ (i - (nn / 16)) % 65536 % 2 ^ (16 - (nn % 16)) * 2 ^ (nn % 16))) ||| 0) : Int32) = nI (N / 65536 ^ (i - (nn / 16)) % 65536 % 2 ^ (16 - (nn % 16)) * 2 ^ (nn % 16)) from or_0 _]
            refine z_ias hx hb hK hS hAad3 oad3 i rfl (by omega) (by omega) d_V_shifted_107 (fun H locs oad3 hz16 ho17 hS => ?_)
            have hN := hN.put hz16 ho17 hgbad3
            refine lv_iinc (v := (nI (i + 1))) (lv' := [(6, .int (nI (i + 1))), (8, .int 0), (7, .int (nI (N / 65536 ^ (i - (nn / 16)) % 65536 * 2 ^ (nn % 16)))), (3, .ref ad3), (0, .ref d), (4, .int (nI (nn / 16))), (5, .int (nI (nn % 16)))]) hx hb d_V_shifted_108 hl (k := 2) rfl (nI_1 i) (by decide) rfl (fun ls hl => ?_)
            refine lv_goto (tgt := 23) hx hb d_V_shifted_111 (by decide) ?_
            exact ih23 (i + 1) (by omega) (by omega) _ _ _ (fun j hj hj2 => (Nat.lt_or_eq_of_le (Nat.le_of_lt_succ hj)).elim (fun h8 => by rw [upd_n (by omega)]; exact hg j h8 hj2) (fun e8 => by rw [e8, upd_s]; rw [show i - (nn / 16) = 0 by omega, show i = nn / 16 by omega, sh_dig0])) oad3 hN hS ls (lv_sub hl [0, 3, 4, 5, 6] rfl)
          · have nc15 : ¬ i ≤ (nn / 16) := fun h9 => c15 ((nI_leI (a := i) (b := (nn / 16)) (by omega) (by omega)).mpr h9)
            refine lv_iload hx hb d_V_shifted_63 (lv_at hl 1 rfl) ?_
            refine lv_iload hx hb d_V_shifted_65 (lv_at hl 4 rfl) ?_
            refine lv_isub hx hb d_V_shifted_67 ?_
            rw [show (((nI i) - (nI (nn / 16))) : Int32) = nI (i - (nn / 16)) from pk_sub (a := i) (b := (nn / 16)) (by omega)]
            refine lv_iconst (v := 1) hx hb d_V_shifted_68 (by decide) ?_
            refine lv_isub hx hb d_V_shifted_69 ?_
            rw [show (((nI (i - (nn / 16))) - 1) : Int32) = nI ((i - (nn / 16)) - 1) from pk_sub (a := (i - (nn / 16))) (b := 1) (by omega)]
            refine lv_aload_n hx hb d_V_shifted_70 rfl (lv_at hl 3 rfl) ?_
            refine z_alen hx hb hK (od.grew hN.2) rfl d_V_shifted_71 ?_
            refine lv_icmp_ge (tgt := 93) hx hb d_V_shifted_72 (by decide) (fun c18 => ?_) (fun c18 => ?_)
            · have nc18 : ((nb N + 15) / 16) ≤ ((i - (nn / 16)) - 1) := (nI_leI (a := ((nb N + 15) / 16)) (b := ((i - (nn / 16)) - 1)) (by omega) (by omega)).mp c18
              refine lv_iconst (v := 0) hx hb d_V_shifted_93 (by decide) ?_
              have hd1 : N / 65536 ^ (i - (nn / 16) - 1) % 65536 = 0 := dig_00 (by omega)
              rw [show (0 : Int32) = nI (N / 65536 ^ (i - (nn / 16) - 1) % 65536 * 2 ^ (nn % 16) / 65536) by rw [hd1, Nat.zero_mul]; rfl]
              refine lv_istore (lv' := [(8, .int (nI (N / 65536 ^ (i - (nn / 16) - 1) % 65536 * 2 ^ (nn % 16) / 65536))), (7, .int (nI (N / 65536 ^ (i - (nn / 16)) % 65536 * 2 ^ (nn % 16)))), (6, .int (nI i)), (3, .ref ad3), (0, .ref d), (4, .int (nI (nn / 16))), (5, .int (nI (nn % 16)))]) hx hb d_V_shifted_94 hl (by decide) rfl (fun ls hl => ?_)
              refine lv_aload_n hx hb d_V_shifted_96 rfl (lv_at hl 3 rfl) ?_
              refine lv_iload hx hb d_V_shifted_97 (lv_at hl 2 rfl) ?_
              refine lv_iload hx hb d_V_shifted_99 (lv_at hl 1 rfl) ?_
              refine lv_ldc (v := 65535) hx hb hown (hts (.constant "ValueTrees" 244 65535) (by decide +kernel)) d_V_shifted_101 ?_
              refine lv_iand hx hb d_V_shifted_103 ?_
              rw [show (((nI (N / 65536 ^ (i - (nn / 16)) % 65536 * 2 ^ (nn % 16))) &&& 65535) : Int32) = nI (N / 65536 ^ (i - (nn / 16)) % 65536 % 2 ^ (16 - (nn % 16)) * 2 ^ (nn % 16)) from sh_hi hr16 hdq]
              refine lv_iload hx hb d_V_shifted_104 (lv_at hl 0 rfl) ?_
              refine lv_ior hx hb d_V_shifted_106 ?_
              rw [show (((nI (N / 65536 ^ (i - (nn / 16)) % 65536 % 2 ^ (16 - (nn % 16)) * 2 ^ (nn % 16))) ||| (nI (N / 65536 ^ (i - (nn / 16) - 1) % 65536 * 2 ^ (nn % 16) / 65536))) : Int32) = nI (N / 65536 ^ (i - (nn / 16)) % 65536 % 2 ^ (16 - (nn % 16)) * 2 ^ (nn % 16) + N / 65536 ^ (i - (nn / 16) - 1) % 65536 / 2 ^ (16 - (nn % 16))) from (by rw [sh_lo hr16]; exact nI_or_r (lo_lt hdp hr16))]
              refine z_ias hx hb hK hS hAad3 oad3 i rfl (by omega) (by omega) d_V_shifted_107 (fun H locs oad3 hz19 ho20 hS => ?_)
              have hN := hN.put hz19 ho20 hgbad3
              refine lv_iinc (v := (nI (i + 1))) (lv' := [(6, .int (nI (i + 1))), (8, .int (nI (N / 65536 ^ (i - (nn / 16) - 1) % 65536 * 2 ^ (nn % 16) / 65536))), (7, .int (nI (N / 65536 ^ (i - (nn / 16)) % 65536 * 2 ^ (nn % 16)))), (3, .ref ad3), (0, .ref d), (4, .int (nI (nn / 16))), (5, .int (nI (nn % 16)))]) hx hb d_V_shifted_108 hl (k := 2) rfl (nI_1 i) (by decide) rfl (fun ls hl => ?_)
              refine lv_goto (tgt := 23) hx hb d_V_shifted_111 (by decide) ?_
              exact ih23 (i + 1) (by omega) (by omega) _ _ _ (fun j hj hj2 => (Nat.lt_or_eq_of_le (Nat.le_of_lt_succ hj)).elim (fun h8 => by rw [upd_n (by omega)]; exact hg j h8 hj2) (fun e8 => by rw [e8, upd_s]; obtain ⟨q, rfl⟩ : ∃ q, i = nn / 16 + (q + 1) := ⟨i - nn / 16 - 1, by omega⟩; rw [sh_dig, show nn / 16 + (q + 1) - nn / 16 = q + 1 by omega, show q + 1 - 1 = q by omega])) oad3 hN hS ls (lv_sub hl [0, 3, 4, 5, 6] rfl)
            · have nc18 : ¬ ((nb N + 15) / 16) ≤ ((i - (nn / 16)) - 1) := fun h9 => c18 ((nI_leI (a := ((nb N + 15) / 16)) (b := ((i - (nn / 16)) - 1)) (by omega) (by omega)).mpr h9)
              refine lv_aload_n hx hb d_V_shifted_75 rfl (lv_at hl 3 rfl) ?_
              refine lv_iload hx hb d_V_shifted_76 (lv_at hl 1 rfl) ?_
              refine lv_iload hx hb d_V_shifted_78 (lv_at hl 4 rfl) ?_
              refine lv_isub hx hb d_V_shifted_80 ?_
              rw [show (((nI i) - (nI (nn / 16))) : Int32) = nI (i - (nn / 16)) from pk_sub (a := i) (b := (nn / 16)) (by omega)]
              refine lv_iconst (v := 1) hx hb d_V_shifted_81 (by decide) ?_
              refine lv_isub hx hb d_V_shifted_82 ?_
              rw [show (((nI (i - (nn / 16))) - 1) : Int32) = nI ((i - (nn / 16)) - 1) from pk_sub (a := (i - (nn / 16))) (b := 1) (by omega)]
              refine z_iald hx hb hK (od.grew hN.2) ((i - (nn / 16)) - 1) rfl (by omega) (by omega) d_V_shifted_83 ?_
              refine lv_iload hx hb d_V_shifted_84 (lv_at hl 5 rfl) ?_
              refine lv_ishl hx hb d_V_shifted_86 ?_
              rw [show (((nI (N / 65536 ^ ((i - (nn / 16)) - 1) % 65536)) <<< ((nI (nn % 16)) &&& 31)) : Int32) = nI (N / 65536 ^ (i - (nn / 16) - 1) % 65536 * 2 ^ (nn % 16)) from nI_shlr (n := N / 65536 ^ (i - (nn / 16) - 1) % 65536) (r := (nn % 16)) (by omega) (Nat.lt_trans (hi_lt hdp hr16) (by decide))]
              refine lv_bipush (v := 16) hx hb d_V_shifted_87 (by decide) ?_
              refine lv_iushr (v := ((nI (N / 65536 ^ (i - (nn / 16) - 1) % 65536 * 2 ^ (nn % 16))).toUInt32 >>> (((16 : Int32)).toUInt32 &&& Int32.toUInt32 31)).toInt32) hx hb d_V_shifted_89 rfl ?_
              rw [show (((nI (N / 65536 ^ (i - (nn / 16) - 1) % 65536 * 2 ^ (nn % 16))).toUInt32 >>> (((16 : Int32)).toUInt32 &&& Int32.toUInt32 31)).toInt32 : Int32) = nI (N / 65536 ^ (i - (nn / 16) - 1) % 65536 * 2 ^ (nn % 16) / 65536) from iushr16 (by omega)]
              refine lv_goto (tgt := 94) hx hb d_V_shifted_90 (by decide) ?_
              refine lv_istore (lv' := [(8, .int (nI (N / 65536 ^ (i - (nn / 16) - 1) % 65536 * 2 ^ (nn % 16) / 65536))), (7, .int (nI (N / 65536 ^ (i - (nn / 16)) % 65536 * 2 ^ (nn % 16)))), (6, .int (nI i)), (3, .ref ad3), (0, .ref d), (4, .int (nI (nn / 16))), (5, .int (nI (nn % 16)))]) hx hb d_V_shifted_94 hl (by decide) rfl (fun ls hl => ?_)
              refine lv_aload_n hx hb d_V_shifted_96 rfl (lv_at hl 3 rfl) ?_
              refine lv_iload hx hb d_V_shifted_97 (lv_at hl 2 rfl) ?_
              refine lv_iload hx hb d_V_shifted_99 (lv_at hl 1 rfl) ?_
              refine lv_ldc (v := 65535) hx hb hown (hts (.constant "ValueTrees" 244 65535) (by decide +kernel)) d_V_shifted_101 ?_
              refine lv_iand hx hb d_V_shifted_103 ?_
              rw [show (((nI (N / 65536 ^ (i - (nn / 16)) % 65536 * 2 ^ (nn % 16))) &&& 65535) : Int32) = nI (N / 65536 ^ (i - (nn / 16)) % 65536 % 2 ^ (16 - (nn % 16)) * 2 ^ (nn % 16)) from sh_hi hr16 hdq]
              refine lv_iload hx hb d_V_shifted_104 (lv_at hl 0 rfl) ?_
              refine lv_ior hx hb d_V_shifted_106 ?_
              rw [show (((nI (N / 65536 ^ (i - (nn / 16)) % 65536 % 2 ^ (16 - (nn % 16)) * 2 ^ (nn % 16))) ||| (nI (N / 65536 ^ (i - (nn / 16) - 1) % 65536 * 2 ^ (nn % 16) / 65536))) : Int32) = nI (N / 65536 ^ (i - (nn / 16)) % 65536 % 2 ^ (16 - (nn % 16)) * 2 ^ (nn % 16) + N / 65536 ^ (i - (nn / 16) - 1) % 65536 / 2 ^ (16 - (nn % 16))) from (by rw [sh_lo hr16]; exact nI_or_r (lo_lt hdp hr16))]
              refine z_ias hx hb hK hS hAad3 oad3 i rfl (by omega) (by omega) d_V_shifted_107 (fun H locs oad3 hz21 ho22 hS => ?_)
              have hN := hN.put hz21 ho22 hgbad3
              refine lv_iinc (v := (nI (i + 1))) (lv' := [(6, .int (nI (i + 1))), (8, .int (nI (N / 65536 ^ (i - (nn / 16) - 1) % 65536 * 2 ^ (nn % 16) / 65536))), (7, .int (nI (N / 65536 ^ (i - (nn / 16)) % 65536 * 2 ^ (nn % 16)))), (3, .ref ad3), (0, .ref d), (4, .int (nI (nn / 16))), (5, .int (nI (nn % 16)))]) hx hb d_V_shifted_108 hl (k := 2) rfl (nI_1 i) (by decide) rfl (fun ls hl => ?_)
              refine lv_goto (tgt := 23) hx hb d_V_shifted_111 (by decide) ?_
              exact ih23 (i + 1) (by omega) (by omega) _ _ _ (fun j hj hj2 => (Nat.lt_or_eq_of_le (Nat.le_of_lt_succ hj)).elim (fun h8 => by rw [upd_n (by omega)]; exact hg j h8 hj2) (fun e8 => by rw [e8, upd_s]; obtain ⟨q, rfl⟩ : ∃ q, i = nn / 16 + (q + 1) := ⟨i - nn / 16 - 1, by omega⟩; rw [sh_dig, show nn / 16 + (q + 1) - nn / 16 = q + 1 by omega, show q + 1 - 1 = q by omega])) oad3 hN hS ls (lv_sub hl [0, 3, 4, 5, 6] rfl)
  exact loop4 (((kb + 15) / 16) + 1) (nn / 16) (by omega) (by omega) _ _ _ (fun j h9 hj => by rw [shl_0 h9]; rfl) oad3 hN hS ls (lv_sub hl [0, 3, 4, 2, 1] rfl)
