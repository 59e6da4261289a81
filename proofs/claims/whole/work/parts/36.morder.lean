abbrev b_M_order : ByteArray := prog_12_method_67_code
abbrev y_M_order : MethodName := ⟨"ValueTreesModel", "order", "(III)I"⟩
abbrev w_M_order : List Cond := .code y_M_order b_M_order 6 (Option.some .int) :: gt
theorem hd_M_order : (y_M_order).cls ≠ "java/lang/invoke/MethodHandle" ∧ (y_M_order).cls ≠ "java/lang/invoke/VarHandle" ∧ (parseMethodDescriptor (y_M_order).desc).map (fun d => d.parameters.length) = some 3 := by decide +kernel
theorem d_M_order_0 : decode b_M_order 0 = .ok (.aload_n 0, 1) := by decide +kernel
theorem d_M_order_1 : decode b_M_order 1 = .ok (.getfield 7, 3) := by decide +kernel
theorem d_M_order_4 : decode b_M_order 4 = .ok (.iload_n 1, 1) := by decide +kernel
theorem d_M_order_5 : decode b_M_order 5 = .ok (.iaload, 1) := by decide +kernel
theorem d_M_order_6 : decode b_M_order 6 = .ok (.istore 4, 2) := by decide +kernel
theorem d_M_order_8 : decode b_M_order 8 = .ok (.iload 4, 2) := by decide +kernel
theorem d_M_order_10 : decode b_M_order 10 = .ok (.invokestatic 75, 3) := by decide +kernel
theorem d_M_order_13 : decode b_M_order 13 = .ok (.ifCond .eq 10, 3) := by decide +kernel
theorem d_M_order_16 : decode b_M_order 16 = .ok (.aload_n 0, 1) := by decide +kernel
theorem d_M_order_17 : decode b_M_order 17 = .ok (.iload_n 2, 1) := by decide +kernel
theorem d_M_order_18 : decode b_M_order 18 = .ok (.iload_n 3, 1) := by decide +kernel
theorem d_M_order_19 : decode b_M_order 19 = .ok (.invokevirtual 180, 3) := by decide +kernel
theorem d_M_order_22 : decode b_M_order 22 = .ok (.ireturn, 1) := by decide +kernel
theorem d_M_order_23 : decode b_M_order 23 = .ok (.iload 4, 2) := by decide +kernel
theorem d_M_order_25 : decode b_M_order 25 = .ok (.invokestatic 174, 3) := by decide +kernel
theorem d_M_order_28 : decode b_M_order 28 = .ok (.ifCond .eq 10, 3) := by decide +kernel
theorem d_M_order_31 : decode b_M_order 31 = .ok (.aload_n 0, 1) := by decide +kernel
theorem d_M_order_32 : decode b_M_order 32 = .ok (.iload_n 2, 1) := by decide +kernel
theorem d_M_order_33 : decode b_M_order 33 = .ok (.iload_n 3, 1) := by decide +kernel
theorem d_M_order_34 : decode b_M_order 34 = .ok (.invokevirtual 183, 3) := by decide +kernel
theorem d_M_order_37 : decode b_M_order 37 = .ok (.ireturn, 1) := by decide +kernel
theorem d_M_order_38 : decode b_M_order 38 = .ok (.iload 4, 2) := by decide +kernel
theorem d_M_order_40 : decode b_M_order 40 = .ok (.bipush 18, 2) := by decide +kernel
theorem d_M_order_42 : decode b_M_order 42 = .ok (.if_icmp .ne 68, 3) := by decide +kernel
theorem d_M_order_45 : decode b_M_order 45 = .ok (.aload_n 0, 1) := by decide +kernel
theorem d_M_order_46 : decode b_M_order 46 = .ok (.aload_n 0, 1) := by decide +kernel
theorem d_M_order_47 : decode b_M_order 47 = .ok (.getfield 13, 3) := by decide +kernel
theorem d_M_order_50 : decode b_M_order 50 = .ok (.iload_n 1, 1) := by decide +kernel
theorem d_M_order_51 : decode b_M_order 51 = .ok (.iaload, 1) := by decide +kernel
theorem d_M_order_52 : decode b_M_order 52 = .ok (.iload_n 2, 1) := by decide +kernel
theorem d_M_order_53 : decode b_M_order 53 = .ok (.iconst 2, 1) := by decide +kernel
theorem d_M_order_54 : decode b_M_order 54 = .ok (.iadd, 1) := by decide +kernel
theorem d_M_order_55 : decode b_M_order 55 = .ok (.iload_n 3, 1) := by decide +kernel
theorem d_M_order_56 : decode b_M_order 56 = .ok (.iconst 2, 1) := by decide +kernel
theorem d_M_order_57 : decode b_M_order 57 = .ok (.iadd, 1) := by decide +kernel
theorem d_M_order_58 : decode b_M_order 58 = .ok (.invokevirtual 149, 3) := by decide +kernel
theorem d_M_order_61 : decode b_M_order 61 = .ok (.istore 5, 2) := by decide +kernel
theorem d_M_order_63 : decode b_M_order 63 = .ok (.iload 5, 2) := by decide +kernel
theorem d_M_order_65 : decode b_M_order 65 = .ok (.ifCond .eq 8, 3) := by decide +kernel
theorem d_M_order_68 : decode b_M_order 68 = .ok (.iload 5, 2) := by decide +kernel
theorem d_M_order_70 : decode b_M_order 70 = .ok (.goto 39, 3) := by decide +kernel
theorem d_M_order_73 : decode b_M_order 73 = .ok (.aload_n 0, 1) := by decide +kernel
theorem d_M_order_74 : decode b_M_order 74 = .ok (.aload_n 0, 1) := by decide +kernel
theorem d_M_order_75 : decode b_M_order 75 = .ok (.getfield 16, 3) := by decide +kernel
theorem d_M_order_78 : decode b_M_order 78 = .ok (.iload_n 1, 1) := by decide +kernel
theorem d_M_order_79 : decode b_M_order 79 = .ok (.iaload, 1) := by decide +kernel
theorem d_M_order_80 : decode b_M_order 80 = .ok (.aload_n 0, 1) := by decide +kernel
theorem d_M_order_81 : decode b_M_order 81 = .ok (.aload_n 0, 1) := by decide +kernel
theorem d_M_order_82 : decode b_M_order 82 = .ok (.getfield 13, 3) := by decide +kernel
theorem d_M_order_85 : decode b_M_order 85 = .ok (.iload_n 1, 1) := by decide +kernel
theorem d_M_order_86 : decode b_M_order 86 = .ok (.iaload, 1) := by decide +kernel
theorem d_M_order_87 : decode b_M_order 87 = .ok (.iload_n 2, 1) := by decide +kernel
theorem d_M_order_88 : decode b_M_order 88 = .ok (.iconst 2, 1) := by decide +kernel
theorem d_M_order_89 : decode b_M_order 89 = .ok (.iadd, 1) := by decide +kernel
theorem d_M_order_90 : decode b_M_order 90 = .ok (.invokevirtual 78, 3) := by decide +kernel
theorem d_M_order_93 : decode b_M_order 93 = .ok (.aload_n 0, 1) := by decide +kernel
theorem d_M_order_94 : decode b_M_order 94 = .ok (.aload_n 0, 1) := by decide +kernel
theorem d_M_order_95 : decode b_M_order 95 = .ok (.getfield 13, 3) := by decide +kernel
theorem d_M_order_98 : decode b_M_order 98 = .ok (.iload_n 1, 1) := by decide +kernel
theorem d_M_order_99 : decode b_M_order 99 = .ok (.iaload, 1) := by decide +kernel
theorem d_M_order_100 : decode b_M_order 100 = .ok (.iload_n 3, 1) := by decide +kernel
theorem d_M_order_101 : decode b_M_order 101 = .ok (.iconst 2, 1) := by decide +kernel
theorem d_M_order_102 : decode b_M_order 102 = .ok (.iadd, 1) := by decide +kernel
theorem d_M_order_103 : decode b_M_order 103 = .ok (.invokevirtual 78, 3) := by decide +kernel
theorem d_M_order_106 : decode b_M_order 106 = .ok (.invokevirtual 149, 3) := by decide +kernel
theorem d_M_order_109 : decode b_M_order 109 = .ok (.ireturn, 1) := by decide +kernel
theorem d_M_order_110 : decode b_M_order 110 = .ok (.iload 4, 2) := by decide +kernel
theorem d_M_order_112 : decode b_M_order 112 = .ok (.ifCond .eq 9, 3) := by decide +kernel
theorem d_M_order_115 : decode b_M_order 115 = .ok (.iload 4, 2) := by decide +kernel
theorem d_M_order_117 : decode b_M_order 117 = .ok (.iconst 1, 1) := by decide +kernel
theorem d_M_order_118 : decode b_M_order 118 = .ok (.if_icmp .ne 27, 3) := by decide +kernel
theorem d_M_order_121 : decode b_M_order 121 = .ok (.iload 4, 2) := by decide +kernel
theorem d_M_order_123 : decode b_M_order 123 = .ok (.ifCond .ne 7, 3) := by decide +kernel
theorem d_M_order_126 : decode b_M_order 126 = .ok (.iconst 0, 1) := by decide +kernel
theorem d_M_order_127 : decode b_M_order 127 = .ok (.goto 17, 3) := by decide +kernel
theorem d_M_order_130 : decode b_M_order 130 = .ok (.aload_n 0, 1) := by decide +kernel
theorem d_M_order_131 : decode b_M_order 131 = .ok (.aload_n 0, 1) := by decide +kernel
theorem d_M_order_132 : decode b_M_order 132 = .ok (.iload_n 2, 1) := by decide +kernel
theorem d_M_order_133 : decode b_M_order 133 = .ok (.invokevirtual 186, 3) := by decide +kernel
theorem d_M_order_136 : decode b_M_order 136 = .ok (.aload_n 0, 1) := by decide +kernel
theorem d_M_order_137 : decode b_M_order 137 = .ok (.iload_n 3, 1) := by decide +kernel
theorem d_M_order_138 : decode b_M_order 138 = .ok (.invokevirtual 186, 3) := by decide +kernel
theorem d_M_order_141 : decode b_M_order 141 = .ok (.invokevirtual 177, 3) := by decide +kernel
theorem d_M_order_144 : decode b_M_order 144 = .ok (.ireturn, 1) := by decide +kernel
theorem d_M_order_145 : decode b_M_order 145 = .ok (.aload_n 0, 1) := by decide +kernel
theorem d_M_order_146 : decode b_M_order 146 = .ok (.aload_n 0, 1) := by decide +kernel
theorem d_M_order_147 : decode b_M_order 147 = .ok (.iload_n 2, 1) := by decide +kernel
theorem d_M_order_148 : decode b_M_order 148 = .ok (.invokevirtual 186, 3) := by decide +kernel
theorem d_M_order_151 : decode b_M_order 151 = .ok (.aload_n 0, 1) := by decide +kernel
theorem d_M_order_152 : decode b_M_order 152 = .ok (.iload_n 3, 1) := by decide +kernel
theorem d_M_order_153 : decode b_M_order 153 = .ok (.invokevirtual 186, 3) := by decide +kernel
theorem d_M_order_156 : decode b_M_order 156 = .ok (.invokevirtual 177, 3) := by decide +kernel
theorem d_M_order_159 : decode b_M_order 159 = .ok (.istore 5, 2) := by decide +kernel
theorem d_M_order_161 : decode b_M_order 161 = .ok (.iload 5, 2) := by decide +kernel
theorem d_M_order_163 : decode b_M_order 163 = .ok (.ifCond .ne 15, 3) := by decide +kernel
theorem d_M_order_166 : decode b_M_order 166 = .ok (.aload_n 0, 1) := by decide +kernel
theorem d_M_order_167 : decode b_M_order 167 = .ok (.iload_n 2, 1) := by decide +kernel
theorem d_M_order_168 : decode b_M_order 168 = .ok (.iconst 1, 1) := by decide +kernel
theorem d_M_order_169 : decode b_M_order 169 = .ok (.iadd, 1) := by decide +kernel
theorem d_M_order_170 : decode b_M_order 170 = .ok (.invokevirtual 72, 3) := by decide +kernel
theorem d_M_order_173 : decode b_M_order 173 = .ok (.bipush 6, 2) := by decide +kernel
theorem d_M_order_175 : decode b_M_order 175 = .ok (.if_icmp .ne 6, 3) := by decide +kernel
theorem d_M_order_178 : decode b_M_order 178 = .ok (.iload 5, 2) := by decide +kernel
theorem d_M_order_180 : decode b_M_order 180 = .ok (.ireturn, 1) := by decide +kernel
theorem d_M_order_181 : decode b_M_order 181 = .ok (.aload_n 0, 1) := by decide +kernel
theorem d_M_order_182 : decode b_M_order 182 = .ok (.iload 4, 2) := by decide +kernel
theorem d_M_order_184 : decode b_M_order 184 = .ok (.bipush 14, 2) := by decide +kernel
theorem d_M_order_186 : decode b_M_order 186 = .ok (.if_icmp .ne 21, 3) := by decide +kernel
theorem d_M_order_189 : decode b_M_order 189 = .ok (.aload_n 0, 1) := by decide +kernel
theorem d_M_order_190 : decode b_M_order 190 = .ok (.iload_n 2, 1) := by decide +kernel
theorem d_M_order_191 : decode b_M_order 191 = .ok (.invokevirtual 186, 3) := by decide +kernel
theorem d_M_order_194 : decode b_M_order 194 = .ok (.iconst 1, 1) := by decide +kernel
theorem d_M_order_195 : decode b_M_order 195 = .ok (.if_icmp .ne 12, 3) := by decide +kernel
theorem d_M_order_198 : decode b_M_order 198 = .ok (.aload_n 0, 1) := by decide +kernel
theorem d_M_order_199 : decode b_M_order 199 = .ok (.getfield 16, 3) := by decide +kernel
theorem d_M_order_202 : decode b_M_order 202 = .ok (.iload_n 1, 1) := by decide +kernel
theorem d_M_order_203 : decode b_M_order 203 = .ok (.iaload, 1) := by decide +kernel
theorem d_M_order_204 : decode b_M_order 204 = .ok (.goto 9, 3) := by decide +kernel
theorem d_M_order_207 : decode b_M_order 207 = .ok (.aload_n 0, 1) := by decide +kernel
theorem d_M_order_208 : decode b_M_order 208 = .ok (.getfield 13, 3) := by decide +kernel
theorem d_M_order_211 : decode b_M_order 211 = .ok (.iload_n 1, 1) := by decide +kernel
theorem d_M_order_212 : decode b_M_order 212 = .ok (.iaload, 1) := by decide +kernel
theorem d_M_order_213 : decode b_M_order 213 = .ok (.iload_n 2, 1) := by decide +kernel
theorem d_M_order_214 : decode b_M_order 214 = .ok (.iconst 2, 1) := by decide +kernel
theorem d_M_order_215 : decode b_M_order 215 = .ok (.iadd, 1) := by decide +kernel
theorem d_M_order_216 : decode b_M_order 216 = .ok (.iload_n 3, 1) := by decide +kernel
theorem d_M_order_217 : decode b_M_order 217 = .ok (.iconst 2, 1) := by decide +kernel
theorem d_M_order_218 : decode b_M_order 218 = .ok (.iadd, 1) := by decide +kernel
theorem d_M_order_219 : decode b_M_order 219 = .ok (.invokevirtual 149, 3) := by decide +kernel
theorem d_M_order_222 : decode b_M_order 222 = .ok (.ireturn, 1) := by decide +kernel
set_option maxHeartbeats 4000000 in
set_option maxRecDepth 100000 in
theorem c_M_order (l : Launch) (D : va_G) (dT : Nat → ClassId) (H : Heap) (mm : Nat → Nat) (wd lf rt : Nat → Int32) (tc : Nat) (ty : Nat → Int32) (F : Nat → Nat) (sz : Nat → Int32) (Wk : Nat → Nat) (wz : Nat) (hF : ∀ k, F k < 256) (tb : Nat → TR) (hO : tOK tb tc) (hT : mT tb tc wd lf rt) : ∀ (d : Nat) (H : Heap) (dg : Nat → Nat) (dc : Nat) (sh : Nat → Nat) (t : Nat) (v w : VT) (a b : Nat), mAt D dT mm wd lf rt tc ty F sz Wk wz dg dc sh H → t < tc → tP (tb t) ≤ d → tC (tb t) = true → wty tb v 0 t → wty tb w 0 t → fAt F a (cs v) → fAt F b (cs w) → a + (cs v).length ≤ 2560 → b + (cs w).length ≤ 2560 → Met l y_M_order w_M_order ({ frames := d + 4, cells := 0, slots := 0, locals := 25 * d + 100 }) (z_P D dT [.ref (mm 0), .int (nI t), .int (nI a), .int (nI b)] H) (z_Q (mA mm) (fun r H1 => r = some (.int (vo v w)) ∧ ∃ dg' dc' sh', mAt D dT mm wd lf rt tc ty F sz Wk wz dg' dc' sh' H1)) 0 0 (mA mm) := by
  intro d
  induction d with
  | zero =>
    intro H dg dc sh t v w a b hM htl hd hcm hwv hww hfv hfw hav haw
    obtain ⟨r1, r2, r2b, r3, r4, r5, r6, r7, r8, r9, r10, r11, r12⟩ := hO.2.2 t htl
    omega
  | succ d ih =>
    intro H dg dc sh t v w a b hM htl hd hcm hwv hww hfv hfw hav haw
    refine Met.ofW (cc := b_M_order) (maxL := 6) (ret := (Option.some .int)) (by decide) rfl ?_
    intro p e s m args below meth c s₁ B hml hv
    obtain ⟨rfl, rfl, hK⟩ := hv
    have hx := B.exec
    have hb := B.bytes
    have hr := B.returns
    have hts := atoms_spec (ws := w_M_order) B.pre
    have ht : ∀ w9 ∈ gt, w9.before [.ref (mm 0), .int (nI t), .int (nI a), .int (nI b)].toArray s = true := fun w9 h => hts w9 (List.mem_cons_of_mem _ h)
    have hown : s.vm.findClass "ValueTreesModel" = some m.cls := findClass_of_methodNamed B.named
    have hlocks := B.notSynchronized
    have hS : va_S (mA mm) s.heap s.heap [] := va_S.rf
    have hl := lv_entry ([.ref (mm 0), .int (nI t), .int (nI a), .int (nI b)]) (n := 6) (Nat.le_of_ble_eq_true rfl)
    rw [lg_entry_eq]
    generalize (lg_sl ([.ref (mm 0), .int (nI t), .int (nI a), .int (nI b)]) ++ List.replicate (6 - (lg_sl ([.ref (mm 0), .int (nI t), .int (nI a), .int (nI b)])).length) Slot.unset).toArray = ls at hl ⊢
    have hl : lv_has ls 6 [(0, .ref (mm 0)), (1, .int (nI t)), (2, .int (nI a)), (3, .int (nI b))] := hl
    obtain ⟨e1, e2, e3⟩ := hT t htl
    obtain ⟨r1, -⟩ := hO.2.2 t htl
    have htc := hO.1
    obtain ⟨cv, rfl, hcv⟩ := wty_pow hwv
    obtain ⟨cw, rfl, hcw⟩ := wty_pow hww
    rcases cmp_cases hO htl hcm with hwd | hwd | hwd | hwd | ⟨hwd, hcl⟩ | ⟨hwd, hcl, hcr⟩ | ⟨hwd, hcl, hcr⟩
    · obtain ⟨x, rfl, hx9⟩ := w_num hcv hwd
      obtain ⟨y, rfl, hy9⟩ := w_num hcw hwd
      rw [f_num] at hfv hfw
      rw [l_num] at hav haw
      refine lv_aload_n hx hb d_M_order_0 rfl (lv_at hl 0 rfl) ?_
      refine va_get (D := D) (ci := 10) (v := .ref (mm 1)) (C := "ValueTreesModel") (T := T_M) (N := 12) hx hb ht in_M hown hK.1 hM.1 0 rfl rfl 0 (by decide) (ht _ q539) (fun _ h9 => h9) rfl d_M_order_1 ?_
      refine lv_iload_n hx hb d_M_order_4 rfl (lv_at hl 1 rfl) ?_
      refine z_iald hx hb hK (hM.1 1 _ rfl) t rfl (by omega) (by decide) d_M_order_5 ?_
      rw [e1]
      refine lv_istore (lv' := [(4, .int (nI (tW (tb t)))), (0, .ref (mm 0)), (1, .int (nI t)), (2, .int (nI a)), (3, .int (nI b))]) hx hb d_M_order_6 hl (by decide) rfl (fun ls hl => ?_)
      refine lv_iload hx hb d_M_order_8 (lv_at hl 0 rfl) ?_
      refine z_callR (va_runS (As := [.int (nI (tW (tb t)))]) (rest := []) ⟨hx, hb, hml, hown, hts⟩ (c_M_isNumber l D dT _ (nI (tW (tb t)))) ⟨callB_of 1 hts (gI gd_up gd_c q622) rfl rfl rfl (ht _ q10) (ht _ q620) hd_M_isNumber ⟨by show 0 + 1 ≤ d + 1 + 4; omega, by show 8 + (1 + 11) + 0 ≤ 25 * (d + 1) + 100; omega⟩, ht _ q621⟩ (z_preS hK) rfl rfl hl.1 rfl (lv_room (Nat.le_of_ble_eq_true rfl)) d_M_order_10 ⟨Nat.zero_le _, Nat.zero_le _⟩) (fun v2 hv1 => ?_)
      have hv1 : v2 = .int (if isNum (nI (tW (tb t))) then 1 else 0) := hv1
      rw [if_pos ((isNum_nI (by omega)).mpr (by omega))] at hv1
      subst hv1
      refine lv_if_eq (tgt := 23) hx hb d_M_order_13 (by decide) (fun c4 => absurd c4 (by decide)) (fun _ => ?_)
      refine lv_aload_n hx hb d_M_order_16 rfl (lv_at hl 1 rfl) ?_
      refine lv_iload_n hx hb d_M_order_17 rfl (lv_at hl 3 rfl) ?_
      refine lv_iload_n hx hb d_M_order_18 rfl (lv_at hl 4 rfl) ?_
      refine z_callQ (va_runV (C := "ValueTreesModel") (As := [.int (nI a), .int (nI b)]) (rest := []) ⟨hx, hb, hml, hown, hts⟩ (c_M_numbers l D dT _ mm wd lf rt tc ty F sz Wk wz dg dc sh hM hF a b x y hx9 hy9 hfv.2 hfw.2 (by omega) (by omega)) ⟨callB_of 2 hts (gI gd_up gd_c q743) rfl rfl rfl (ht _ q10) (ht _ q740) hd_M_numbers ⟨by show 2 + 1 ≤ d + 1 + 4; omega, by show 8 + (8 + 11) + 50 ≤ 25 * (d + 1) + 100; omega⟩, ht _ q742, ht _ qs39⟩ (z_preV hK (va_recv hK.1 hM.1 (ci := 10) (q0 := 0) rfl rfl)) rfl rfl hl.1 rfl (lv_room (Nat.le_of_ble_eq_true rfl)) d_M_order_19 ⟨Nat.le_refl _, Nat.le_refl _⟩) hS (fun _ h9 => h9) (fun v6 H locs hv5 hz7 hf8 hS => ?_)
      obtain ⟨rfl, dg, dc, sh, hM⟩ := hv5
      refine W.eq (g2 := F0 m 22 ls [.int (icmp x y)]) rfl ?_
      exact z_iretQ hx hb hr hlocks d_M_order_22 hS (Nat.le_refl _) (Nat.le_refl _) ⟨rfl, dg, dc, sh, hM⟩
    · obtain ⟨ka, rfl, hka, -, -⟩ := w_row hcv hwd
      obtain ⟨kb, rfl, hkb, -, -⟩ := w_row hcw hwd
      rw [f_row] at hfv hfw
      rw [l_row] at hav haw
      refine lv_aload_n hx hb d_M_order_0 rfl (lv_at hl 0 rfl) ?_
      refine va_get (D := D) (ci := 10) (v := .ref (mm 1)) (C := "ValueTreesModel") (T := T_M) (N := 12) hx hb ht in_M hown hK.1 hM.1 0 rfl rfl 0 (by decide) (ht _ q539) (fun _ h9 => h9) rfl d_M_order_1 ?_
      refine lv_iload_n hx hb d_M_order_4 rfl (lv_at hl 1 rfl) ?_
      refine z_iald hx hb hK (hM.1 1 _ rfl) t rfl (by omega) (by decide) d_M_order_5 ?_
      rw [e1]
      refine lv_istore (lv' := [(4, .int (nI (tW (tb t)))), (0, .ref (mm 0)), (1, .int (nI t)), (2, .int (nI a)), (3, .int (nI b))]) hx hb d_M_order_6 hl (by decide) rfl (fun ls hl => ?_)
      refine lv_iload hx hb d_M_order_8 (lv_at hl 0 rfl) ?_
      refine z_callR (va_runS (As := [.int (nI (tW (tb t)))]) (rest := []) ⟨hx, hb, hml, hown, hts⟩ (c_M_isNumber l D dT _ (nI (tW (tb t)))) ⟨callB_of 1 hts (gI gd_up gd_c q622) rfl rfl rfl (ht _ q10) (ht _ q620) hd_M_isNumber ⟨by show 0 + 1 ≤ d + 1 + 4; omega, by show 8 + (1 + 11) + 0 ≤ 25 * (d + 1) + 100; omega⟩, ht _ q621⟩ (z_preS hK) rfl rfl hl.1 rfl (lv_room (Nat.le_of_ble_eq_true rfl)) d_M_order_10 ⟨Nat.zero_le _, Nat.zero_le _⟩) (fun v10 hv9 => ?_)
      have hv9 : v10 = .int (if isNum (nI (tW (tb t))) then 1 else 0) := hv9
      rw [if_neg (fun h9 => absurd ((isNum_nI (by omega)).mp h9) (by omega))] at hv9
      subst hv9
      refine lv_if_eq (tgt := 23) hx hb d_M_order_13 (by decide) (fun _ => ?_) (fun c12 => absurd c12 (by decide))
      refine lv_iload hx hb d_M_order_23 (lv_at hl 0 rfl) ?_
      refine z_callR (va_runS (As := [.int (nI (tW (tb t)))]) (rest := []) ⟨hx, hb, hml, hown, hts⟩ (c_M_isRow l D dT _ (nI (tW (tb t)))) ⟨callB_of 1 hts (gI gd_up gd_c q750) rfl rfl rfl (ht _ q10) (ht _ q748) hd_M_isRow ⟨by show 0 + 1 ≤ d + 1 + 4; omega, by show 8 + (1 + 11) + 0 ≤ 25 * (d + 1) + 100; omega⟩, ht _ q749⟩ (z_preS hK) rfl rfl hl.1 rfl (lv_room (Nat.le_of_ble_eq_true rfl)) d_M_order_25 ⟨Nat.zero_le _, Nat.zero_le _⟩) (fun v14 hv13 => ?_)
      have hv13 : v14 = .int (if isRw (nI (tW (tb t))) then 1 else 0) := hv13
      rw [if_pos ((isRw_nI (by omega)).mpr (by omega))] at hv13
      subst hv13
      refine lv_if_eq (tgt := 38) hx hb d_M_order_28 (by decide) (fun c16 => absurd c16 (by decide)) (fun _ => ?_)
      refine lv_aload_n hx hb d_M_order_31 rfl (lv_at hl 1 rfl) ?_
      refine lv_iload_n hx hb d_M_order_32 rfl (lv_at hl 3 rfl) ?_
      refine lv_iload_n hx hb d_M_order_33 rfl (lv_at hl 4 rfl) ?_
      refine z_callR (va_runV (C := "ValueTreesModel") (As := [.int (nI a), .int (nI b)]) (rest := []) ⟨hx, hb, hml, hown, hts⟩ (c_M_rows l D dT _ mm wd lf rt tc ty F sz Wk wz dg dc sh hM hF a b ka kb hfv.2.1 hfw.2.1 hfv.2.2 hfw.2.2 (by omega) (by omega)) ⟨callB_of 2 hts (gI gd_up gd_c q754) rfl rfl rfl (ht _ q10) (ht _ q751) hd_M_rows ⟨by show 2 + 1 ≤ d + 1 + 4; omega, by show 8 + (7 + 11) + 42 ≤ 25 * (d + 1) + 100; omega⟩, ht _ q753, ht _ qs41⟩ (z_preV hK (va_recv hK.1 hM.1 (ci := 10) (q0 := 0) rfl rfl)) rfl rfl hl.1 rfl (lv_room (Nat.le_of_ble_eq_true rfl)) d_M_order_34 ⟨Nat.zero_le _, Nat.zero_le _⟩) (fun v18 hv17 => ?_)
      subst hv17
      exact z_iretQ hx hb hr hlocks d_M_order_37 hS (Nat.le_refl _) (Nat.le_refl _) ⟨rfl, dg, dc, sh, hM⟩
    · have ec := w_unit hcv hwd
      subst ec
      have ec := w_unit hcw hwd
      subst ec
      refine lv_aload_n hx hb d_M_order_0 rfl (lv_at hl 0 rfl) ?_
      refine va_get (D := D) (ci := 10) (v := .ref (mm 1)) (C := "ValueTreesModel") (T := T_M) (N := 12) hx hb ht in_M hown hK.1 hM.1 0 rfl rfl 0 (by decide) (ht _ q539) (fun _ h9 => h9) rfl d_M_order_1 ?_
      refine lv_iload_n hx hb d_M_order_4 rfl (lv_at hl 1 rfl) ?_
      refine z_iald hx hb hK (hM.1 1 _ rfl) t rfl (by omega) (by decide) d_M_order_5 ?_
      rw [e1]
      refine lv_istore (lv' := [(4, .int (nI (tW (tb t)))), (0, .ref (mm 0)), (1, .int (nI t)), (2, .int (nI a)), (3, .int (nI b))]) hx hb d_M_order_6 hl (by decide) rfl (fun ls hl => ?_)
      refine lv_iload hx hb d_M_order_8 (lv_at hl 0 rfl) ?_
      refine z_callR (va_runS (As := [.int (nI (tW (tb t)))]) (rest := []) ⟨hx, hb, hml, hown, hts⟩ (c_M_isNumber l D dT _ (nI (tW (tb t)))) ⟨callB_of 1 hts (gI gd_up gd_c q622) rfl rfl rfl (ht _ q10) (ht _ q620) hd_M_isNumber ⟨by show 0 + 1 ≤ d + 1 + 4; omega, by show 8 + (1 + 11) + 0 ≤ 25 * (d + 1) + 100; omega⟩, ht _ q621⟩ (z_preS hK) rfl rfl hl.1 rfl (lv_room (Nat.le_of_ble_eq_true rfl)) d_M_order_10 ⟨Nat.zero_le _, Nat.zero_le _⟩) (fun v20 hv19 => ?_)
      have hv19 : v20 = .int (if isNum (nI (tW (tb t))) then 1 else 0) := hv19
      rw [if_neg (fun h9 => absurd ((isNum_nI (by omega)).mp h9) (by omega))] at hv19
      subst hv19
      refine lv_if_eq (tgt := 23) hx hb d_M_order_13 (by decide) (fun _ => ?_) (fun c22 => absurd c22 (by decide))
      refine lv_iload hx hb d_M_order_23 (lv_at hl 0 rfl) ?_
      refine z_callR (va_runS (As := [.int (nI (tW (tb t)))]) (rest := []) ⟨hx, hb, hml, hown, hts⟩ (c_M_isRow l D dT _ (nI (tW (tb t)))) ⟨callB_of 1 hts (gI gd_up gd_c q750) rfl rfl rfl (ht _ q10) (ht _ q748) hd_M_isRow ⟨by show 0 + 1 ≤ d + 1 + 4; omega, by show 8 + (1 + 11) + 0 ≤ 25 * (d + 1) + 100; omega⟩, ht _ q749⟩ (z_preS hK) rfl rfl hl.1 rfl (lv_room (Nat.le_of_ble_eq_true rfl)) d_M_order_25 ⟨Nat.zero_le _, Nat.zero_le _⟩) (fun v24 hv23 => ?_)
      have hv23 : v24 = .int (if isRw (nI (tW (tb t))) then 1 else 0) := hv23
      rw [if_neg (fun h9 => absurd ((isRw_nI (by omega)).mp h9) (by omega))] at hv23
      subst hv23
      refine lv_if_eq (tgt := 38) hx hb d_M_order_28 (by decide) (fun _ => ?_) (fun c26 => absurd c26 (by decide))
      refine lv_iload hx hb d_M_order_38 (lv_at hl 0 rfl) ?_
      refine lv_bipush (v := 18) hx hb d_M_order_40 (by decide) ?_
      refine lv_icmp_ne (tgt := 110) hx hb d_M_order_42 (by decide) (fun c27 => ?_) (fun c27 => absurd ((nI_eq (a := (tW (tb t))) (b := 18) (by omega) (by omega)).mp c27) (by omega))
      refine lv_iload hx hb d_M_order_110 (lv_at hl 0 rfl) ?_
      refine lv_if_eq (tgt := 121) hx hb d_M_order_112 (by decide) (fun c28 => ?_) (fun c28 => absurd ((nI_eq (a := (tW (tb t))) (b := 0) (by omega) (by omega)).mpr (by omega)) c28)
      refine lv_iload hx hb d_M_order_121 (lv_at hl 0 rfl) ?_
      refine lv_if_ne (tgt := 130) hx hb d_M_order_123 (by decide) (fun c29 => absurd ((nI_eq (a := (tW (tb t))) (b := 0) (by omega) (by omega)).mpr (by omega)) c29) (fun c29 => ?_)
      refine lv_iconst (v := 0) hx hb d_M_order_126 (by decide) ?_
      refine lv_goto (tgt := 144) hx hb d_M_order_127 (by decide) ?_
      exact z_iretQ hx hb hr hlocks d_M_order_144 hS (Nat.le_refl _) (Nat.le_refl _) ⟨rfl, dg, dc, sh, hM⟩
    · have ht1 : t = 1 := (is_word hO htl (by omega)).trans hwd
      rcases w_bool hcv hwd with rfl | rfl
      · rcases w_bool hcw hwd with rfl | rfl
        · rw [f_var] at hfv hfw
          rw [l_var] at hav haw
          have ga : F (a + 1) = 3 := by rw [hfv.2, ht1]; rfl
          have gb : F (b + 1) = 3 := by rw [hfw.2, ht1]; rfl
          refine lv_aload_n hx hb d_M_order_0 rfl (lv_at hl 0 rfl) ?_
          refine va_get (D := D) (ci := 10) (v := .ref (mm 1)) (C := "ValueTreesModel") (T := T_M) (N := 12) hx hb ht in_M hown hK.1 hM.1 0 rfl rfl 0 (by decide) (ht _ q539) (fun _ h9 => h9) rfl d_M_order_1 ?_
          refine lv_iload_n hx hb d_M_order_4 rfl (lv_at hl 1 rfl) ?_
          refine z_iald hx hb hK (hM.1 1 _ rfl) t rfl (by omega) (by decide) d_M_order_5 ?_
          rw [e1]
          refine lv_istore (lv' := [(4, .int (nI (tW (tb t)))), (0, .ref (mm 0)), (1, .int (nI t)), (2, .int (nI a)), (3, .int (nI b))]) hx hb d_M_order_6 hl (by decide) rfl (fun ls hl => ?_)
          refine lv_iload hx hb d_M_order_8 (lv_at hl 0 rfl) ?_
          refine z_callR (va_runS (As := [.int (nI (tW (tb t)))]) (rest := []) ⟨hx, hb, hml, hown, hts⟩ (c_M_isNumber l D dT _ (nI (tW (tb t)))) ⟨callB_of 1 hts (gI gd_up gd_c q622) rfl rfl rfl (ht _ q10) (ht _ q620) hd_M_isNumber ⟨by show 0 + 1 ≤ d + 1 + 4; omega, by show 8 + (1 + 11) + 0 ≤ 25 * (d + 1) + 100; omega⟩, ht _ q621⟩ (z_preS hK) rfl rfl hl.1 rfl (lv_room (Nat.le_of_ble_eq_true rfl)) d_M_order_10 ⟨Nat.zero_le _, Nat.zero_le _⟩) (fun v31 hv30 => ?_)
          have hv30 : v31 = .int (if isNum (nI (tW (tb t))) then 1 else 0) := hv30
          rw [if_neg (fun h9 => absurd ((isNum_nI (by omega)).mp h9) (by omega))] at hv30
          subst hv30
          refine lv_if_eq (tgt := 23) hx hb d_M_order_13 (by decide) (fun _ => ?_) (fun c33 => absurd c33 (by decide))
          refine lv_iload hx hb d_M_order_23 (lv_at hl 0 rfl) ?_
          refine z_callR (va_runS (As := [.int (nI (tW (tb t)))]) (rest := []) ⟨hx, hb, hml, hown, hts⟩ (c_M_isRow l D dT _ (nI (tW (tb t)))) ⟨callB_of 1 hts (gI gd_up gd_c q750) rfl rfl rfl (ht _ q10) (ht _ q748) hd_M_isRow ⟨by show 0 + 1 ≤ d + 1 + 4; omega, by show 8 + (1 + 11) + 0 ≤ 25 * (d + 1) + 100; omega⟩, ht _ q749⟩ (z_preS hK) rfl rfl hl.1 rfl (lv_room (Nat.le_of_ble_eq_true rfl)) d_M_order_25 ⟨Nat.zero_le _, Nat.zero_le _⟩) (fun v35 hv34 => ?_)
          have hv34 : v35 = .int (if isRw (nI (tW (tb t))) then 1 else 0) := hv34
          rw [if_neg (fun h9 => absurd ((isRw_nI (by omega)).mp h9) (by omega))] at hv34
          subst hv34
          refine lv_if_eq (tgt := 38) hx hb d_M_order_28 (by decide) (fun _ => ?_) (fun c37 => absurd c37 (by decide))
          refine lv_iload hx hb d_M_order_38 (lv_at hl 0 rfl) ?_
          refine lv_bipush (v := 18) hx hb d_M_order_40 (by decide) ?_
          refine lv_icmp_ne (tgt := 110) hx hb d_M_order_42 (by decide) (fun c38 => ?_) (fun c38 => absurd ((nI_eq (a := (tW (tb t))) (b := 18) (by omega) (by omega)).mp c38) (by omega))
          refine lv_iload hx hb d_M_order_110 (lv_at hl 0 rfl) ?_
          refine lv_if_eq (tgt := 121) hx hb d_M_order_112 (by decide) (fun c39 => absurd ((nI_eq (a := (tW (tb t))) (b := 0) (by omega) (by omega)).mp c39) (by omega)) (fun c39 => ?_)
          refine lv_iload hx hb d_M_order_115 (lv_at hl 0 rfl) ?_
          refine lv_iconst (v := 1) hx hb d_M_order_117 (by decide) ?_
          refine lv_icmp_ne (tgt := 145) hx hb d_M_order_118 (by decide) (fun c40 => absurd ((nI_eq (a := (tW (tb t))) (b := 1) (by omega) (by omega)).mpr (by omega)) c40) (fun c40 => ?_)
          refine lv_iload hx hb d_M_order_121 (lv_at hl 0 rfl) ?_
          refine lv_if_ne (tgt := 130) hx hb d_M_order_123 (by decide) (fun c41 => ?_) (fun c41 => absurd ((nI_eq (a := (tW (tb t))) (b := 0) (by omega) (by omega)).mp c41) (by omega))
          refine lv_aload_n hx hb d_M_order_130 rfl (lv_at hl 1 rfl) ?_
          refine lv_aload_n hx hb d_M_order_131 rfl (lv_at hl 1 rfl) ?_
          refine lv_iload_n hx hb d_M_order_132 rfl (lv_at hl 3 rfl) ?_
          refine z_callR (va_runV (C := "ValueTreesModel") (As := [.int (nI a)]) (rest := [.ref (mm 0)]) ⟨hx, hb, hml, hown, hts⟩ (c_M_rank l D dT _ mm wd lf rt tc ty F sz Wk wz dg dc sh hM hF a (by omega)) ⟨callB_of 1 hts (gI gd_up gd_c q766) rfl rfl rfl (ht _ q10) (ht _ q763) hd_M_rank ⟨by show 1 + 1 ≤ d + 1 + 4; omega, by show 8 + (3 + 11) + 21 ≤ 25 * (d + 1) + 100; omega⟩, ht _ q765, ht _ qs44⟩ (z_preV hK (va_recv hK.1 hM.1 (ci := 10) (q0 := 0) rfl rfl)) rfl rfl hl.1 rfl (lv_room (Nat.le_of_ble_eq_true rfl)) d_M_order_133 ⟨Nat.zero_le _, Nat.zero_le _⟩) (fun v43 hv42 => ?_)
          have hv42 : v43 = .int 0 := hv42.trans (by rw [ga]; first | rfl | decide | simp)
          subst hv42
          refine lv_aload_n hx hb d_M_order_136 rfl (lv_at hl 1 rfl) ?_
          refine lv_iload_n hx hb d_M_order_137 rfl (lv_at hl 4 rfl) ?_
          refine z_callR (va_runV (C := "ValueTreesModel") (As := [.int (nI b)]) (rest := [.int 0, .ref (mm 0)]) ⟨hx, hb, hml, hown, hts⟩ (c_M_rank l D dT _ mm wd lf rt tc ty F sz Wk wz dg dc sh hM hF b (by omega)) ⟨callB_of 1 hts (gI gd_up gd_c q766) rfl rfl rfl (ht _ q10) (ht _ q763) hd_M_rank ⟨by show 1 + 1 ≤ d + 1 + 4; omega, by show 8 + (3 + 11) + 21 ≤ 25 * (d + 1) + 100; omega⟩, ht _ q765, ht _ qs44⟩ (z_preV hK (va_recv hK.1 hM.1 (ci := 10) (q0 := 0) rfl rfl)) rfl rfl hl.1 rfl (lv_room (Nat.le_of_ble_eq_true rfl)) d_M_order_138 ⟨Nat.zero_le _, Nat.zero_le _⟩) (fun v45 hv44 => ?_)
          have hv44 : v45 = .int 0 := hv44.trans (by rw [gb]; first | rfl | decide | simp)
          subst hv44
          refine z_callR (va_runV (C := "ValueTreesModel") (As := [.int 0, .int 0]) (rest := []) ⟨hx, hb, hml, hown, hts⟩ (c_M_sign l D dT _ (mm 0) 0 0) ⟨callB_of 2 hts (gI gd_up gd_c q747) rfl rfl rfl (ht _ q10) (ht _ q744) hd_M_sign ⟨by show 0 + 1 ≤ d + 1 + 4; omega, by show 8 + (3 + 11) + 0 ≤ 25 * (d + 1) + 100; omega⟩, ht _ q746, ht _ qs40⟩ (z_preV hK (va_recv hK.1 hM.1 (ci := 10) (q0 := 0) rfl rfl)) rfl rfl hl.1 rfl (lv_room (Nat.le_of_ble_eq_true rfl)) d_M_order_141 ⟨Nat.zero_le _, Nat.zero_le _⟩) (fun v47 hv46 => ?_)
          have hv46 : v47 = .int 0 := hv46.trans (by first | rfl | decide | simp)
          subst hv46
          exact z_iretQ hx hb hr hlocks d_M_order_144 hS (Nat.le_refl _) (Nat.le_refl _) ⟨rfl, dg, dc, sh, hM⟩
        · rw [f_var] at hfv hfw
          rw [l_var] at hav haw
          have ga : F (a + 1) = 3 := by rw [hfv.2, ht1]; rfl
          have gb : F (b + 1) = 10 := by rw [hfw.2, ht1]; rfl
          refine lv_aload_n hx hb d_M_order_0 rfl (lv_at hl 0 rfl) ?_
          refine va_get (D := D) (ci := 10) (v := .ref (mm 1)) (C := "ValueTreesModel") (T := T_M) (N := 12) hx hb ht in_M hown hK.1 hM.1 0 rfl rfl 0 (by decide) (ht _ q539) (fun _ h9 => h9) rfl d_M_order_1 ?_
          refine lv_iload_n hx hb d_M_order_4 rfl (lv_at hl 1 rfl) ?_
          refine z_iald hx hb hK (hM.1 1 _ rfl) t rfl (by omega) (by decide) d_M_order_5 ?_
          rw [e1]
          refine lv_istore (lv' := [(4, .int (nI (tW (tb t)))), (0, .ref (mm 0)), (1, .int (nI t)), (2, .int (nI a)), (3, .int (nI b))]) hx hb d_M_order_6 hl (by decide) rfl (fun ls hl => ?_)
          refine lv_iload hx hb d_M_order_8 (lv_at hl 0 rfl) ?_
          refine z_callR (va_runS (As := [.int (nI (tW (tb t)))]) (rest := []) ⟨hx, hb, hml, hown, hts⟩ (c_M_isNumber l D dT _ (nI (tW (tb t)))) ⟨callB_of 1 hts (gI gd_up gd_c q622) rfl rfl rfl (ht _ q10) (ht _ q620) hd_M_isNumber ⟨by show 0 + 1 ≤ d + 1 + 4; omega, by show 8 + (1 + 11) + 0 ≤ 25 * (d + 1) + 100; omega⟩, ht _ q621⟩ (z_preS hK) rfl rfl hl.1 rfl (lv_room (Nat.le_of_ble_eq_true rfl)) d_M_order_10 ⟨Nat.zero_le _, Nat.zero_le _⟩) (fun v49 hv48 => ?_)
          have hv48 : v49 = .int (if isNum (nI (tW (tb t))) then 1 else 0) := hv48
          rw [if_neg (fun h9 => absurd ((isNum_nI (by omega)).mp h9) (by omega))] at hv48
          subst hv48
          refine lv_if_eq (tgt := 23) hx hb d_M_order_13 (by decide) (fun _ => ?_) (fun c51 => absurd c51 (by decide))
          refine lv_iload hx hb d_M_order_23 (lv_at hl 0 rfl) ?_
          refine z_callR (va_runS (As := [.int (nI (tW (tb t)))]) (rest := []) ⟨hx, hb, hml, hown, hts⟩ (c_M_isRow l D dT _ (nI (tW (tb t)))) ⟨callB_of 1 hts (gI gd_up gd_c q750) rfl rfl rfl (ht _ q10) (ht _ q748) hd_M_isRow ⟨by show 0 + 1 ≤ d + 1 + 4; omega, by show 8 + (1 + 11) + 0 ≤ 25 * (d + 1) + 100; omega⟩, ht _ q749⟩ (z_preS hK) rfl rfl hl.1 rfl (lv_room (Nat.le_of_ble_eq_true rfl)) d_M_order_25 ⟨Nat.zero_le _, Nat.zero_le _⟩) (fun v53 hv52 => ?_)
          have hv52 : v53 = .int (if isRw (nI (tW (tb t))) then 1 else 0) := hv52
          rw [if_neg (fun h9 => absurd ((isRw_nI (by omega)).mp h9) (by omega))] at hv52
          subst hv52
          refine lv_if_eq (tgt := 38) hx hb d_M_order_28 (by decide) (fun _ => ?_) (fun c55 => absurd c55 (by decide))
          refine lv_iload hx hb d_M_order_38 (lv_at hl 0 rfl) ?_
          refine lv_bipush (v := 18) hx hb d_M_order_40 (by decide) ?_
          refine lv_icmp_ne (tgt := 110) hx hb d_M_order_42 (by decide) (fun c56 => ?_) (fun c56 => absurd ((nI_eq (a := (tW (tb t))) (b := 18) (by omega) (by omega)).mp c56) (by omega))
          refine lv_iload hx hb d_M_order_110 (lv_at hl 0 rfl) ?_
          refine lv_if_eq (tgt := 121) hx hb d_M_order_112 (by decide) (fun c57 => absurd ((nI_eq (a := (tW (tb t))) (b := 0) (by omega) (by omega)).mp c57) (by omega)) (fun c57 => ?_)
          refine lv_iload hx hb d_M_order_115 (lv_at hl 0 rfl) ?_
          refine lv_iconst (v := 1) hx hb d_M_order_117 (by decide) ?_
          refine lv_icmp_ne (tgt := 145) hx hb d_M_order_118 (by decide) (fun c58 => absurd ((nI_eq (a := (tW (tb t))) (b := 1) (by omega) (by omega)).mpr (by omega)) c58) (fun c58 => ?_)
          refine lv_iload hx hb d_M_order_121 (lv_at hl 0 rfl) ?_
          refine lv_if_ne (tgt := 130) hx hb d_M_order_123 (by decide) (fun c59 => ?_) (fun c59 => absurd ((nI_eq (a := (tW (tb t))) (b := 0) (by omega) (by omega)).mp c59) (by omega))
          refine lv_aload_n hx hb d_M_order_130 rfl (lv_at hl 1 rfl) ?_
          refine lv_aload_n hx hb d_M_order_131 rfl (lv_at hl 1 rfl) ?_
          refine lv_iload_n hx hb d_M_order_132 rfl (lv_at hl 3 rfl) ?_
          refine z_callR (va_runV (C := "ValueTreesModel") (As := [.int (nI a)]) (rest := [.ref (mm 0)]) ⟨hx, hb, hml, hown, hts⟩ (c_M_rank l D dT _ mm wd lf rt tc ty F sz Wk wz dg dc sh hM hF a (by omega)) ⟨callB_of 1 hts (gI gd_up gd_c q766) rfl rfl rfl (ht _ q10) (ht _ q763) hd_M_rank ⟨by show 1 + 1 ≤ d + 1 + 4; omega, by show 8 + (3 + 11) + 21 ≤ 25 * (d + 1) + 100; omega⟩, ht _ q765, ht _ qs44⟩ (z_preV hK (va_recv hK.1 hM.1 (ci := 10) (q0 := 0) rfl rfl)) rfl rfl hl.1 rfl (lv_room (Nat.le_of_ble_eq_true rfl)) d_M_order_133 ⟨Nat.zero_le _, Nat.zero_le _⟩) (fun v61 hv60 => ?_)
          have hv60 : v61 = .int 0 := hv60.trans (by rw [ga]; first | rfl | decide | simp)
          subst hv60
          refine lv_aload_n hx hb d_M_order_136 rfl (lv_at hl 1 rfl) ?_
          refine lv_iload_n hx hb d_M_order_137 rfl (lv_at hl 4 rfl) ?_
          refine z_callR (va_runV (C := "ValueTreesModel") (As := [.int (nI b)]) (rest := [.int 0, .ref (mm 0)]) ⟨hx, hb, hml, hown, hts⟩ (c_M_rank l D dT _ mm wd lf rt tc ty F sz Wk wz dg dc sh hM hF b (by omega)) ⟨callB_of 1 hts (gI gd_up gd_c q766) rfl rfl rfl (ht _ q10) (ht _ q763) hd_M_rank ⟨by show 1 + 1 ≤ d + 1 + 4; omega, by show 8 + (3 + 11) + 21 ≤ 25 * (d + 1) + 100; omega⟩, ht _ q765, ht _ qs44⟩ (z_preV hK (va_recv hK.1 hM.1 (ci := 10) (q0 := 0) rfl rfl)) rfl rfl hl.1 rfl (lv_room (Nat.le_of_ble_eq_true rfl)) d_M_order_138 ⟨Nat.zero_le _, Nat.zero_le _⟩) (fun v63 hv62 => ?_)
          have hv62 : v63 = .int 1 := hv62.trans (by rw [gb]; first | rfl | decide | simp)
          subst hv62
          refine z_callR (va_runV (C := "ValueTreesModel") (As := [.int 0, .int 1]) (rest := []) ⟨hx, hb, hml, hown, hts⟩ (c_M_sign l D dT _ (mm 0) 0 1) ⟨callB_of 2 hts (gI gd_up gd_c q747) rfl rfl rfl (ht _ q10) (ht _ q744) hd_M_sign ⟨by show 0 + 1 ≤ d + 1 + 4; omega, by show 8 + (3 + 11) + 0 ≤ 25 * (d + 1) + 100; omega⟩, ht _ q746, ht _ qs40⟩ (z_preV hK (va_recv hK.1 hM.1 (ci := 10) (q0 := 0) rfl rfl)) rfl rfl hl.1 rfl (lv_room (Nat.le_of_ble_eq_true rfl)) d_M_order_141 ⟨Nat.zero_le _, Nat.zero_le _⟩) (fun v65 hv64 => ?_)
          have hv64 : v65 = .int (-1) := hv64.trans (by first | rfl | decide | simp)
          subst hv64
          exact z_iretQ hx hb hr hlocks d_M_order_144 hS (Nat.le_refl _) (Nat.le_refl _) ⟨rfl, dg, dc, sh, hM⟩
      · rcases w_bool hcw hwd with rfl | rfl
        · rw [f_var] at hfv hfw
          rw [l_var] at hav haw
          have ga : F (a + 1) = 10 := by rw [hfv.2, ht1]; rfl
          have gb : F (b + 1) = 3 := by rw [hfw.2, ht1]; rfl
          refine lv_aload_n hx hb d_M_order_0 rfl (lv_at hl 0 rfl) ?_
          refine va_get (D := D) (ci := 10) (v := .ref (mm 1)) (C := "ValueTreesModel") (T := T_M) (N := 12) hx hb ht in_M hown hK.1 hM.1 0 rfl rfl 0 (by decide) (ht _ q539) (fun _ h9 => h9) rfl d_M_order_1 ?_
          refine lv_iload_n hx hb d_M_order_4 rfl (lv_at hl 1 rfl) ?_
          refine z_iald hx hb hK (hM.1 1 _ rfl) t rfl (by omega) (by decide) d_M_order_5 ?_
          rw [e1]
          refine lv_istore (lv' := [(4, .int (nI (tW (tb t)))), (0, .ref (mm 0)), (1, .int (nI t)), (2, .int (nI a)), (3, .int (nI b))]) hx hb d_M_order_6 hl (by decide) rfl (fun ls hl => ?_)
          refine lv_iload hx hb d_M_order_8 (lv_at hl 0 rfl) ?_
          refine z_callR (va_runS (As := [.int (nI (tW (tb t)))]) (rest := []) ⟨hx, hb, hml, hown, hts⟩ (c_M_isNumber l D dT _ (nI (tW (tb t)))) ⟨callB_of 1 hts (gI gd_up gd_c q622) rfl rfl rfl (ht _ q10) (ht _ q620) hd_M_isNumber ⟨by show 0 + 1 ≤ d + 1 + 4; omega, by show 8 + (1 + 11) + 0 ≤ 25 * (d + 1) + 100; omega⟩, ht _ q621⟩ (z_preS hK) rfl rfl hl.1 rfl (lv_room (Nat.le_of_ble_eq_true rfl)) d_M_order_10 ⟨Nat.zero_le _, Nat.zero_le _⟩) (fun v67 hv66 => ?_)
          have hv66 : v67 = .int (if isNum (nI (tW (tb t))) then 1 else 0) := hv66
          rw [if_neg (fun h9 => absurd ((isNum_nI (by omega)).mp h9) (by omega))] at hv66
          subst hv66
          refine lv_if_eq (tgt := 23) hx hb d_M_order_13 (by decide) (fun _ => ?_) (fun c69 => absurd c69 (by decide))
          refine lv_iload hx hb d_M_order_23 (lv_at hl 0 rfl) ?_
          refine z_callR (va_runS (As := [.int (nI (tW (tb t)))]) (rest := []) ⟨hx, hb, hml, hown, hts⟩ (c_M_isRow l D dT _ (nI (tW (tb t)))) ⟨callB_of 1 hts (gI gd_up gd_c q750) rfl rfl rfl (ht _ q10) (ht _ q748) hd_M_isRow ⟨by show 0 + 1 ≤ d + 1 + 4; omega, by show 8 + (1 + 11) + 0 ≤ 25 * (d + 1) + 100; omega⟩, ht _ q749⟩ (z_preS hK) rfl rfl hl.1 rfl (lv_room (Nat.le_of_ble_eq_true rfl)) d_M_order_25 ⟨Nat.zero_le _, Nat.zero_le _⟩) (fun v71 hv70 => ?_)
          have hv70 : v71 = .int (if isRw (nI (tW (tb t))) then 1 else 0) := hv70
          rw [if_neg (fun h9 => absurd ((isRw_nI (by omega)).mp h9) (by omega))] at hv70
          subst hv70
          refine lv_if_eq (tgt := 38) hx hb d_M_order_28 (by decide) (fun _ => ?_) (fun c73 => absurd c73 (by decide))
          refine lv_iload hx hb d_M_order_38 (lv_at hl 0 rfl) ?_
          refine lv_bipush (v := 18) hx hb d_M_order_40 (by decide) ?_
          refine lv_icmp_ne (tgt := 110) hx hb d_M_order_42 (by decide) (fun c74 => ?_) (fun c74 => absurd ((nI_eq (a := (tW (tb t))) (b := 18) (by omega) (by omega)).mp c74) (by omega))
          refine lv_iload hx hb d_M_order_110 (lv_at hl 0 rfl) ?_
          refine lv_if_eq (tgt := 121) hx hb d_M_order_112 (by decide) (fun c75 => absurd ((nI_eq (a := (tW (tb t))) (b := 0) (by omega) (by omega)).mp c75) (by omega)) (fun c75 => ?_)
          refine lv_iload hx hb d_M_order_115 (lv_at hl 0 rfl) ?_
          refine lv_iconst (v := 1) hx hb d_M_order_117 (by decide) ?_
          refine lv_icmp_ne (tgt := 145) hx hb d_M_order_118 (by decide) (fun c76 => absurd ((nI_eq (a := (tW (tb t))) (b := 1) (by omega) (by omega)).mpr (by omega)) c76) (fun c76 => ?_)
          refine lv_iload hx hb d_M_order_121 (lv_at hl 0 rfl) ?_
          refine lv_if_ne (tgt := 130) hx hb d_M_order_123 (by decide) (fun c77 => ?_) (fun c77 => absurd ((nI_eq (a := (tW (tb t))) (b := 0) (by omega) (by omega)).mp c77) (by omega))
          refine lv_aload_n hx hb d_M_order_130 rfl (lv_at hl 1 rfl) ?_
          refine lv_aload_n hx hb d_M_order_131 rfl (lv_at hl 1 rfl) ?_
          refine lv_iload_n hx hb d_M_order_132 rfl (lv_at hl 3 rfl) ?_
          refine z_callR (va_runV (C := "ValueTreesModel") (As := [.int (nI a)]) (rest := [.ref (mm 0)]) ⟨hx, hb, hml, hown, hts⟩ (c_M_rank l D dT _ mm wd lf rt tc ty F sz Wk wz dg dc sh hM hF a (by omega)) ⟨callB_of 1 hts (gI gd_up gd_c q766) rfl rfl rfl (ht _ q10) (ht _ q763) hd_M_rank ⟨by show 1 + 1 ≤ d + 1 + 4; omega, by show 8 + (3 + 11) + 21 ≤ 25 * (d + 1) + 100; omega⟩, ht _ q765, ht _ qs44⟩ (z_preV hK (va_recv hK.1 hM.1 (ci := 10) (q0 := 0) rfl rfl)) rfl rfl hl.1 rfl (lv_room (Nat.le_of_ble_eq_true rfl)) d_M_order_133 ⟨Nat.zero_le _, Nat.zero_le _⟩) (fun v79 hv78 => ?_)
          have hv78 : v79 = .int 1 := hv78.trans (by rw [ga]; first | rfl | decide | simp)
          subst hv78
          refine lv_aload_n hx hb d_M_order_136 rfl (lv_at hl 1 rfl) ?_
          refine lv_iload_n hx hb d_M_order_137 rfl (lv_at hl 4 rfl) ?_
          refine z_callR (va_runV (C := "ValueTreesModel") (As := [.int (nI b)]) (rest := [.int 1, .ref (mm 0)]) ⟨hx, hb, hml, hown, hts⟩ (c_M_rank l D dT _ mm wd lf rt tc ty F sz Wk wz dg dc sh hM hF b (by omega)) ⟨callB_of 1 hts (gI gd_up gd_c q766) rfl rfl rfl (ht _ q10) (ht _ q763) hd_M_rank ⟨by show 1 + 1 ≤ d + 1 + 4; omega, by show 8 + (3 + 11) + 21 ≤ 25 * (d + 1) + 100; omega⟩, ht _ q765, ht _ qs44⟩ (z_preV hK (va_recv hK.1 hM.1 (ci := 10) (q0 := 0) rfl rfl)) rfl rfl hl.1 rfl (lv_room (Nat.le_of_ble_eq_true rfl)) d_M_order_138 ⟨Nat.zero_le _, Nat.zero_le _⟩) (fun v81 hv80 => ?_)
          have hv80 : v81 = .int 0 := hv80.trans (by rw [gb]; first | rfl | decide | simp)
          subst hv80
          refine z_callR (va_runV (C := "ValueTreesModel") (As := [.int 1, .int 0]) (rest := []) ⟨hx, hb, hml, hown, hts⟩ (c_M_sign l D dT _ (mm 0) 1 0) ⟨callB_of 2 hts (gI gd_up gd_c q747) rfl rfl rfl (ht _ q10) (ht _ q744) hd_M_sign ⟨by show 0 + 1 ≤ d + 1 + 4; omega, by show 8 + (3 + 11) + 0 ≤ 25 * (d + 1) + 100; omega⟩, ht _ q746, ht _ qs40⟩ (z_preV hK (va_recv hK.1 hM.1 (ci := 10) (q0 := 0) rfl rfl)) rfl rfl hl.1 rfl (lv_room (Nat.le_of_ble_eq_true rfl)) d_M_order_141 ⟨Nat.zero_le _, Nat.zero_le _⟩) (fun v83 hv82 => ?_)
          have hv82 : v83 = .int 1 := hv82.trans (by first | rfl | decide | simp)
          subst hv82
          exact z_iretQ hx hb hr hlocks d_M_order_144 hS (Nat.le_refl _) (Nat.le_refl _) ⟨rfl, dg, dc, sh, hM⟩
        · rw [f_var] at hfv hfw
          rw [l_var] at hav haw
          have ga : F (a + 1) = 10 := by rw [hfv.2, ht1]; rfl
          have gb : F (b + 1) = 10 := by rw [hfw.2, ht1]; rfl
          refine lv_aload_n hx hb d_M_order_0 rfl (lv_at hl 0 rfl) ?_
          refine va_get (D := D) (ci := 10) (v := .ref (mm 1)) (C := "ValueTreesModel") (T := T_M) (N := 12) hx hb ht in_M hown hK.1 hM.1 0 rfl rfl 0 (by decide) (ht _ q539) (fun _ h9 => h9) rfl d_M_order_1 ?_
          refine lv_iload_n hx hb d_M_order_4 rfl (lv_at hl 1 rfl) ?_
          refine z_iald hx hb hK (hM.1 1 _ rfl) t rfl (by omega) (by decide) d_M_order_5 ?_
          rw [e1]
          refine lv_istore (lv' := [(4, .int (nI (tW (tb t)))), (0, .ref (mm 0)), (1, .int (nI t)), (2, .int (nI a)), (3, .int (nI b))]) hx hb d_M_order_6 hl (by decide) rfl (fun ls hl => ?_)
          refine lv_iload hx hb d_M_order_8 (lv_at hl 0 rfl) ?_
          refine z_callR (va_runS (As := [.int (nI (tW (tb t)))]) (rest := []) ⟨hx, hb, hml, hown, hts⟩ (c_M_isNumber l D dT _ (nI (tW (tb t)))) ⟨callB_of 1 hts (gI gd_up gd_c q622) rfl rfl rfl (ht _ q10) (ht _ q620) hd_M_isNumber ⟨by show 0 + 1 ≤ d + 1 + 4; omega, by show 8 + (1 + 11) + 0 ≤ 25 * (d + 1) + 100; omega⟩, ht _ q621⟩ (z_preS hK) rfl rfl hl.1 rfl (lv_room (Nat.le_of_ble_eq_true rfl)) d_M_order_10 ⟨Nat.zero_le _, Nat.zero_le _⟩) (fun v85 hv84 => ?_)
          have hv84 : v85 = .int (if isNum (nI (tW (tb t))) then 1 else 0) := hv84
          rw [if_neg (fun h9 => absurd ((isNum_nI (by omega)).mp h9) (by omega))] at hv84
          subst hv84
          refine lv_if_eq (tgt := 23) hx hb d_M_order_13 (by decide) (fun _ => ?_) (fun c87 => absurd c87 (by decide))
          refine lv_iload hx hb d_M_order_23 (lv_at hl 0 rfl) ?_
          refine z_callR (va_runS (As := [.int (nI (tW (tb t)))]) (rest := []) ⟨hx, hb, hml, hown, hts⟩ (c_M_isRow l D dT _ (nI (tW (tb t)))) ⟨callB_of 1 hts (gI gd_up gd_c q750) rfl rfl rfl (ht _ q10) (ht _ q748) hd_M_isRow ⟨by show 0 + 1 ≤ d + 1 + 4; omega, by show 8 + (1 + 11) + 0 ≤ 25 * (d + 1) + 100; omega⟩, ht _ q749⟩ (z_preS hK) rfl rfl hl.1 rfl (lv_room (Nat.le_of_ble_eq_true rfl)) d_M_order_25 ⟨Nat.zero_le _, Nat.zero_le _⟩) (fun v89 hv88 => ?_)
          have hv88 : v89 = .int (if isRw (nI (tW (tb t))) then 1 else 0) := hv88
          rw [if_neg (fun h9 => absurd ((isRw_nI (by omega)).mp h9) (by omega))] at hv88
          subst hv88
          refine lv_if_eq (tgt := 38) hx hb d_M_order_28 (by decide) (fun _ => ?_) (fun c91 => absurd c91 (by decide))
          refine lv_iload hx hb d_M_order_38 (lv_at hl 0 rfl) ?_
          refine lv_bipush (v := 18) hx hb d_M_order_40 (by decide) ?_
          refine lv_icmp_ne (tgt := 110) hx hb d_M_order_42 (by decide) (fun c92 => ?_) (fun c92 => absurd ((nI_eq (a := (tW (tb t))) (b := 18) (by omega) (by omega)).mp c92) (by omega))
          refine lv_iload hx hb d_M_order_110 (lv_at hl 0 rfl) ?_
          refine lv_if_eq (tgt := 121) hx hb d_M_order_112 (by decide) (fun c93 => absurd ((nI_eq (a := (tW (tb t))) (b := 0) (by omega) (by omega)).mp c93) (by omega)) (fun c93 => ?_)
          refine lv_iload hx hb d_M_order_115 (lv_at hl 0 rfl) ?_
          refine lv_iconst (v := 1) hx hb d_M_order_117 (by decide) ?_
          refine lv_icmp_ne (tgt := 145) hx hb d_M_order_118 (by decide) (fun c94 => absurd ((nI_eq (a := (tW (tb t))) (b := 1) (by omega) (by omega)).mpr (by omega)) c94) (fun c94 => ?_)
          refine lv_iload hx hb d_M_order_121 (lv_at hl 0 rfl) ?_
          refine lv_if_ne (tgt := 130) hx hb d_M_order_123 (by decide) (fun c95 => ?_) (fun c95 => absurd ((nI_eq (a := (tW (tb t))) (b := 0) (by omega) (by omega)).mp c95) (by omega))
          refine lv_aload_n hx hb d_M_order_130 rfl (lv_at hl 1 rfl) ?_
          refine lv_aload_n hx hb d_M_order_131 rfl (lv_at hl 1 rfl) ?_
          refine lv_iload_n hx hb d_M_order_132 rfl (lv_at hl 3 rfl) ?_
          refine z_callR (va_runV (C := "ValueTreesModel") (As := [.int (nI a)]) (rest := [.ref (mm 0)]) ⟨hx, hb, hml, hown, hts⟩ (c_M_rank l D dT _ mm wd lf rt tc ty F sz Wk wz dg dc sh hM hF a (by omega)) ⟨callB_of 1 hts (gI gd_up gd_c q766) rfl rfl rfl (ht _ q10) (ht _ q763) hd_M_rank ⟨by show 1 + 1 ≤ d + 1 + 4; omega, by show 8 + (3 + 11) + 21 ≤ 25 * (d + 1) + 100; omega⟩, ht _ q765, ht _ qs44⟩ (z_preV hK (va_recv hK.1 hM.1 (ci := 10) (q0 := 0) rfl rfl)) rfl rfl hl.1 rfl (lv_room (Nat.le_of_ble_eq_true rfl)) d_M_order_133 ⟨Nat.zero_le _, Nat.zero_le _⟩) (fun v97 hv96 => ?_)
          have hv96 : v97 = .int 1 := hv96.trans (by rw [ga]; first | rfl | decide | simp)
          subst hv96
          refine lv_aload_n hx hb d_M_order_136 rfl (lv_at hl 1 rfl) ?_
          refine lv_iload_n hx hb d_M_order_137 rfl (lv_at hl 4 rfl) ?_
          refine z_callR (va_runV (C := "ValueTreesModel") (As := [.int (nI b)]) (rest := [.int 1, .ref (mm 0)]) ⟨hx, hb, hml, hown, hts⟩ (c_M_rank l D dT _ mm wd lf rt tc ty F sz Wk wz dg dc sh hM hF b (by omega)) ⟨callB_of 1 hts (gI gd_up gd_c q766) rfl rfl rfl (ht _ q10) (ht _ q763) hd_M_rank ⟨by show 1 + 1 ≤ d + 1 + 4; omega, by show 8 + (3 + 11) + 21 ≤ 25 * (d + 1) + 100; omega⟩, ht _ q765, ht _ qs44⟩ (z_preV hK (va_recv hK.1 hM.1 (ci := 10) (q0 := 0) rfl rfl)) rfl rfl hl.1 rfl (lv_room (Nat.le_of_ble_eq_true rfl)) d_M_order_138 ⟨Nat.zero_le _, Nat.zero_le _⟩) (fun v99 hv98 => ?_)
          have hv98 : v99 = .int 1 := hv98.trans (by rw [gb]; first | rfl | decide | simp)
          subst hv98
          refine z_callR (va_runV (C := "ValueTreesModel") (As := [.int 1, .int 1]) (rest := []) ⟨hx, hb, hml, hown, hts⟩ (c_M_sign l D dT _ (mm 0) 1 1) ⟨callB_of 2 hts (gI gd_up gd_c q747) rfl rfl rfl (ht _ q10) (ht _ q744) hd_M_sign ⟨by show 0 + 1 ≤ d + 1 + 4; omega, by show 8 + (3 + 11) + 0 ≤ 25 * (d + 1) + 100; omega⟩, ht _ q746, ht _ qs40⟩ (z_preV hK (va_recv hK.1 hM.1 (ci := 10) (q0 := 0) rfl rfl)) rfl rfl hl.1 rfl (lv_room (Nat.le_of_ble_eq_true rfl)) d_M_order_141 ⟨Nat.zero_le _, Nat.zero_le _⟩) (fun v101 hv100 => ?_)
          have hv100 : v101 = .int 0 := hv100.trans (by first | rfl | decide | simp)
          subst hv100
          exact z_iretQ hx hb hr hlocks d_M_order_144 hS (Nat.le_refl _) (Nat.le_refl _) ⟨rfl, dg, dc, sh, hM⟩
    · obtain ⟨hL, hlt, hlp⟩ := tl_some hO htl (by omega)
      rw [hL] at e2
      have e2 : lf t = nI (lt_ tb t) := e2
      have ht1 := not_one hO htl (by omega)
      rcases w_opt hcv hwd with rfl | ⟨x, rfl, hxx⟩
      · rcases w_opt hcw hwd with rfl | ⟨y, rfl, hyy⟩
        · rw [f_var] at hfv
          rw [l_var] at hav
          have ga : F (a + 1) = 6 := by rw [hfv.2]; simp [vtag, ht1]
          rw [f_var] at hfw
          rw [l_var] at haw
          have gb : F (b + 1) = 6 := by rw [hfw.2]; simp [vtag, ht1]
          refine lv_aload_n hx hb d_M_order_0 rfl (lv_at hl 0 rfl) ?_
          refine va_get (D := D) (ci := 10) (v := .ref (mm 1)) (C := "ValueTreesModel") (T := T_M) (N := 12) hx hb ht in_M hown hK.1 hM.1 0 rfl rfl 0 (by decide) (ht _ q539) (fun _ h9 => h9) rfl d_M_order_1 ?_
          refine lv_iload_n hx hb d_M_order_4 rfl (lv_at hl 1 rfl) ?_
          refine z_iald hx hb hK (hM.1 1 _ rfl) t rfl (by omega) (by decide) d_M_order_5 ?_
          rw [e1]
          refine lv_istore (lv' := [(4, .int (nI (tW (tb t)))), (0, .ref (mm 0)), (1, .int (nI t)), (2, .int (nI a)), (3, .int (nI b))]) hx hb d_M_order_6 hl (by decide) rfl (fun ls hl => ?_)
          refine lv_iload hx hb d_M_order_8 (lv_at hl 0 rfl) ?_
          refine z_callR (va_runS (As := [.int (nI (tW (tb t)))]) (rest := []) ⟨hx, hb, hml, hown, hts⟩ (c_M_isNumber l D dT _ (nI (tW (tb t)))) ⟨callB_of 1 hts (gI gd_up gd_c q622) rfl rfl rfl (ht _ q10) (ht _ q620) hd_M_isNumber ⟨by show 0 + 1 ≤ d + 1 + 4; omega, by show 8 + (1 + 11) + 0 ≤ 25 * (d + 1) + 100; omega⟩, ht _ q621⟩ (z_preS hK) rfl rfl hl.1 rfl (lv_room (Nat.le_of_ble_eq_true rfl)) d_M_order_10 ⟨Nat.zero_le _, Nat.zero_le _⟩) (fun v103 hv102 => ?_)
          have hv102 : v103 = .int (if isNum (nI (tW (tb t))) then 1 else 0) := hv102
          rw [if_neg (fun h9 => absurd ((isNum_nI (by omega)).mp h9) (by omega))] at hv102
          subst hv102
          refine lv_if_eq (tgt := 23) hx hb d_M_order_13 (by decide) (fun _ => ?_) (fun c105 => absurd c105 (by decide))
          refine lv_iload hx hb d_M_order_23 (lv_at hl 0 rfl) ?_
          refine z_callR (va_runS (As := [.int (nI (tW (tb t)))]) (rest := []) ⟨hx, hb, hml, hown, hts⟩ (c_M_isRow l D dT _ (nI (tW (tb t)))) ⟨callB_of 1 hts (gI gd_up gd_c q750) rfl rfl rfl (ht _ q10) (ht _ q748) hd_M_isRow ⟨by show 0 + 1 ≤ d + 1 + 4; omega, by show 8 + (1 + 11) + 0 ≤ 25 * (d + 1) + 100; omega⟩, ht _ q749⟩ (z_preS hK) rfl rfl hl.1 rfl (lv_room (Nat.le_of_ble_eq_true rfl)) d_M_order_25 ⟨Nat.zero_le _, Nat.zero_le _⟩) (fun v107 hv106 => ?_)
          have hv106 : v107 = .int (if isRw (nI (tW (tb t))) then 1 else 0) := hv106
          rw [if_neg (fun h9 => absurd ((isRw_nI (by omega)).mp h9) (by omega))] at hv106
          subst hv106
          refine lv_if_eq (tgt := 38) hx hb d_M_order_28 (by decide) (fun _ => ?_) (fun c109 => absurd c109 (by decide))
          refine lv_iload hx hb d_M_order_38 (lv_at hl 0 rfl) ?_
          refine lv_bipush (v := 18) hx hb d_M_order_40 (by decide) ?_
          refine lv_icmp_ne (tgt := 110) hx hb d_M_order_42 (by decide) (fun c110 => ?_) (fun c110 => absurd ((nI_eq (a := (tW (tb t))) (b := 18) (by omega) (by omega)).mp c110) (by omega))
          refine lv_iload hx hb d_M_order_110 (lv_at hl 0 rfl) ?_
          refine lv_if_eq (tgt := 121) hx hb d_M_order_112 (by decide) (fun c111 => absurd ((nI_eq (a := (tW (tb t))) (b := 0) (by omega) (by omega)).mp c111) (by omega)) (fun c111 => ?_)
          refine lv_iload hx hb d_M_order_115 (lv_at hl 0 rfl) ?_
          refine lv_iconst (v := 1) hx hb d_M_order_117 (by decide) ?_
          refine lv_icmp_ne (tgt := 145) hx hb d_M_order_118 (by decide) (fun c112 => ?_) (fun c112 => absurd ((nI_eq (a := (tW (tb t))) (b := 1) (by omega) (by omega)).mp c112) (by omega))
          refine lv_aload_n hx hb d_M_order_145 rfl (lv_at hl 1 rfl) ?_
          refine lv_aload_n hx hb d_M_order_146 rfl (lv_at hl 1 rfl) ?_
          refine lv_iload_n hx hb d_M_order_147 rfl (lv_at hl 3 rfl) ?_
          refine z_callR (va_runV (C := "ValueTreesModel") (As := [.int (nI a)]) (rest := [.ref (mm 0)]) ⟨hx, hb, hml, hown, hts⟩ (c_M_rank l D dT _ mm wd lf rt tc ty F sz Wk wz dg dc sh hM hF a (by omega)) ⟨callB_of 1 hts (gI gd_up gd_c q766) rfl rfl rfl (ht _ q10) (ht _ q763) hd_M_rank ⟨by show 1 + 1 ≤ d + 1 + 4; omega, by show 8 + (3 + 11) + 21 ≤ 25 * (d + 1) + 100; omega⟩, ht _ q765, ht _ qs44⟩ (z_preV hK (va_recv hK.1 hM.1 (ci := 10) (q0 := 0) rfl rfl)) rfl rfl hl.1 rfl (lv_room (Nat.le_of_ble_eq_true rfl)) d_M_order_148 ⟨Nat.zero_le _, Nat.zero_le _⟩) (fun v114 hv113 => ?_)
          have hv113 : v114 = .int 0 := hv113.trans (by rw [ga]; first | rfl | decide | simp)
          subst hv113
          refine lv_aload_n hx hb d_M_order_151 rfl (lv_at hl 1 rfl) ?_
          refine lv_iload_n hx hb d_M_order_152 rfl (lv_at hl 4 rfl) ?_
          refine z_callR (va_runV (C := "ValueTreesModel") (As := [.int (nI b)]) (rest := [.int 0, .ref (mm 0)]) ⟨hx, hb, hml, hown, hts⟩ (c_M_rank l D dT _ mm wd lf rt tc ty F sz Wk wz dg dc sh hM hF b (by omega)) ⟨callB_of 1 hts (gI gd_up gd_c q766) rfl rfl rfl (ht _ q10) (ht _ q763) hd_M_rank ⟨by show 1 + 1 ≤ d + 1 + 4; omega, by show 8 + (3 + 11) + 21 ≤ 25 * (d + 1) + 100; omega⟩, ht _ q765, ht _ qs44⟩ (z_preV hK (va_recv hK.1 hM.1 (ci := 10) (q0 := 0) rfl rfl)) rfl rfl hl.1 rfl (lv_room (Nat.le_of_ble_eq_true rfl)) d_M_order_153 ⟨Nat.zero_le _, Nat.zero_le _⟩) (fun v116 hv115 => ?_)
          have hv115 : v116 = .int 0 := hv115.trans (by rw [gb]; first | rfl | decide | simp)
          subst hv115
          refine z_callR (va_runV (C := "ValueTreesModel") (As := [.int 0, .int 0]) (rest := []) ⟨hx, hb, hml, hown, hts⟩ (c_M_sign l D dT _ (mm 0) 0 0) ⟨callB_of 2 hts (gI gd_up gd_c q747) rfl rfl rfl (ht _ q10) (ht _ q744) hd_M_sign ⟨by show 0 + 1 ≤ d + 1 + 4; omega, by show 8 + (3 + 11) + 0 ≤ 25 * (d + 1) + 100; omega⟩, ht _ q746, ht _ qs40⟩ (z_preV hK (va_recv hK.1 hM.1 (ci := 10) (q0 := 0) rfl rfl)) rfl rfl hl.1 rfl (lv_room (Nat.le_of_ble_eq_true rfl)) d_M_order_156 ⟨Nat.zero_le _, Nat.zero_le _⟩) (fun v118 hv117 => ?_)
          have hv117 : v118 = .int 0 := hv117.trans (by first | rfl | decide | simp)
          subst hv117
          refine lv_istore (lv' := [(5, .int 0), (4, .int (nI (tW (tb t)))), (0, .ref (mm 0)), (1, .int (nI t)), (2, .int (nI a)), (3, .int (nI b))]) hx hb d_M_order_159 hl (by decide) rfl (fun ls hl => ?_)
          refine lv_iload hx hb d_M_order_161 (lv_at hl 0 rfl) ?_
          refine lv_if_ne (tgt := 178) hx hb d_M_order_163 (by decide) (fun c119 => absurd c119 (by decide)) (fun _ => ?_)
          refine lv_aload_n hx hb d_M_order_166 rfl (lv_at hl 2 rfl) ?_
          refine lv_iload_n hx hb d_M_order_167 rfl (lv_at hl 4 rfl) ?_
          refine lv_iconst (v := 1) hx hb d_M_order_168 (by decide) ?_
          refine lv_iadd hx hb d_M_order_169 ?_
          rw [show (((nI a) + 1) : Int32) = nI (a + 1) from nI_add a 1]
          refine z_callR (va_runV (C := "ValueTreesModel") (As := [.int (nI (a + 1))]) (rest := []) ⟨hx, hb, hml, hown, hts⟩ (c_M_byteOf l D dT _ mm wd lf rt tc ty F sz Wk wz dg dc sh hM (a + 1) (by omega) (hF _)) ⟨callB_of 1 hts (gI gd_up gd_c q670) rfl rfl rfl (ht _ q10) (ht _ q667) hd_M_byteOf ⟨by show 0 + 1 ≤ d + 1 + 4; omega, by show 8 + (2 + 11) + 0 ≤ 25 * (d + 1) + 100; omega⟩, ht _ q669, ht _ qs29⟩ (z_preV hK (va_recv hK.1 hM.1 (ci := 10) (q0 := 0) rfl rfl)) rfl rfl hl.1 rfl (lv_room (Nat.le_of_ble_eq_true rfl)) d_M_order_170 ⟨Nat.zero_le _, Nat.zero_le _⟩) (fun v121 hv120 => ?_)
          subst hv120
          rw [ga]
          refine lv_bipush (v := 6) hx hb d_M_order_173 (by decide) ?_
          refine lv_icmp_ne (tgt := 181) hx hb d_M_order_175 (by decide) (fun c122 => absurd ((nI_eq (a := 6) (b := 6) (by omega) (by omega)).mpr (by omega)) c122) (fun c122 => ?_)
          refine lv_iload hx hb d_M_order_178 (lv_at hl 0 rfl) ?_
          exact z_iretQ hx hb hr hlocks d_M_order_180 hS (Nat.le_refl _) (Nat.le_refl _) ⟨rfl, dg, dc, sh, hM⟩
        · rw [f_var] at hfv
          rw [l_var] at hav
          have ga : F (a + 1) = 6 := by rw [hfv.2]; simp [vtag, ht1]
          rw [f_sub] at hfw
          rw [l_sub] at haw
          have gb : F (b + 1) = 9 := hfw.2.1
          refine lv_aload_n hx hb d_M_order_0 rfl (lv_at hl 0 rfl) ?_
          refine va_get (D := D) (ci := 10) (v := .ref (mm 1)) (C := "ValueTreesModel") (T := T_M) (N := 12) hx hb ht in_M hown hK.1 hM.1 0 rfl rfl 0 (by decide) (ht _ q539) (fun _ h9 => h9) rfl d_M_order_1 ?_
          refine lv_iload_n hx hb d_M_order_4 rfl (lv_at hl 1 rfl) ?_
          refine z_iald hx hb hK (hM.1 1 _ rfl) t rfl (by omega) (by decide) d_M_order_5 ?_
          rw [e1]
          refine lv_istore (lv' := [(4, .int (nI (tW (tb t)))), (0, .ref (mm 0)), (1, .int (nI t)), (2, .int (nI a)), (3, .int (nI b))]) hx hb d_M_order_6 hl (by decide) rfl (fun ls hl => ?_)
          refine lv_iload hx hb d_M_order_8 (lv_at hl 0 rfl) ?_
          refine z_callR (va_runS (As := [.int (nI (tW (tb t)))]) (rest := []) ⟨hx, hb, hml, hown, hts⟩ (c_M_isNumber l D dT _ (nI (tW (tb t)))) ⟨callB_of 1 hts (gI gd_up gd_c q622) rfl rfl rfl (ht _ q10) (ht _ q620) hd_M_isNumber ⟨by show 0 + 1 ≤ d + 1 + 4; omega, by show 8 + (1 + 11) + 0 ≤ 25 * (d + 1) + 100; omega⟩, ht _ q621⟩ (z_preS hK) rfl rfl hl.1 rfl (lv_room (Nat.le_of_ble_eq_true rfl)) d_M_order_10 ⟨Nat.zero_le _, Nat.zero_le _⟩) (fun v124 hv123 => ?_)
          have hv123 : v124 = .int (if isNum (nI (tW (tb t))) then 1 else 0) := hv123
          rw [if_neg (fun h9 => absurd ((isNum_nI (by omega)).mp h9) (by omega))] at hv123
          subst hv123
          refine lv_if_eq (tgt := 23) hx hb d_M_order_13 (by decide) (fun _ => ?_) (fun c126 => absurd c126 (by decide))
          refine lv_iload hx hb d_M_order_23 (lv_at hl 0 rfl) ?_
          refine z_callR (va_runS (As := [.int (nI (tW (tb t)))]) (rest := []) ⟨hx, hb, hml, hown, hts⟩ (c_M_isRow l D dT _ (nI (tW (tb t)))) ⟨callB_of 1 hts (gI gd_up gd_c q750) rfl rfl rfl (ht _ q10) (ht _ q748) hd_M_isRow ⟨by show 0 + 1 ≤ d + 1 + 4; omega, by show 8 + (1 + 11) + 0 ≤ 25 * (d + 1) + 100; omega⟩, ht _ q749⟩ (z_preS hK) rfl rfl hl.1 rfl (lv_room (Nat.le_of_ble_eq_true rfl)) d_M_order_25 ⟨Nat.zero_le _, Nat.zero_le _⟩) (fun v128 hv127 => ?_)
          have hv127 : v128 = .int (if isRw (nI (tW (tb t))) then 1 else 0) := hv127
          rw [if_neg (fun h9 => absurd ((isRw_nI (by omega)).mp h9) (by omega))] at hv127
          subst hv127
          refine lv_if_eq (tgt := 38) hx hb d_M_order_28 (by decide) (fun _ => ?_) (fun c130 => absurd c130 (by decide))
          refine lv_iload hx hb d_M_order_38 (lv_at hl 0 rfl) ?_
          refine lv_bipush (v := 18) hx hb d_M_order_40 (by decide) ?_
          refine lv_icmp_ne (tgt := 110) hx hb d_M_order_42 (by decide) (fun c131 => ?_) (fun c131 => absurd ((nI_eq (a := (tW (tb t))) (b := 18) (by omega) (by omega)).mp c131) (by omega))
          refine lv_iload hx hb d_M_order_110 (lv_at hl 0 rfl) ?_
          refine lv_if_eq (tgt := 121) hx hb d_M_order_112 (by decide) (fun c132 => absurd ((nI_eq (a := (tW (tb t))) (b := 0) (by omega) (by omega)).mp c132) (by omega)) (fun c132 => ?_)
          refine lv_iload hx hb d_M_order_115 (lv_at hl 0 rfl) ?_
          refine lv_iconst (v := 1) hx hb d_M_order_117 (by decide) ?_
          refine lv_icmp_ne (tgt := 145) hx hb d_M_order_118 (by decide) (fun c133 => ?_) (fun c133 => absurd ((nI_eq (a := (tW (tb t))) (b := 1) (by omega) (by omega)).mp c133) (by omega))
          refine lv_aload_n hx hb d_M_order_145 rfl (lv_at hl 1 rfl) ?_
          refine lv_aload_n hx hb d_M_order_146 rfl (lv_at hl 1 rfl) ?_
          refine lv_iload_n hx hb d_M_order_147 rfl (lv_at hl 3 rfl) ?_
          refine z_callR (va_runV (C := "ValueTreesModel") (As := [.int (nI a)]) (rest := [.ref (mm 0)]) ⟨hx, hb, hml, hown, hts⟩ (c_M_rank l D dT _ mm wd lf rt tc ty F sz Wk wz dg dc sh hM hF a (by omega)) ⟨callB_of 1 hts (gI gd_up gd_c q766) rfl rfl rfl (ht _ q10) (ht _ q763) hd_M_rank ⟨by show 1 + 1 ≤ d + 1 + 4; omega, by show 8 + (3 + 11) + 21 ≤ 25 * (d + 1) + 100; omega⟩, ht _ q765, ht _ qs44⟩ (z_preV hK (va_recv hK.1 hM.1 (ci := 10) (q0 := 0) rfl rfl)) rfl rfl hl.1 rfl (lv_room (Nat.le_of_ble_eq_true rfl)) d_M_order_148 ⟨Nat.zero_le _, Nat.zero_le _⟩) (fun v135 hv134 => ?_)
          have hv134 : v135 = .int 0 := hv134.trans (by rw [ga]; first | rfl | decide | simp)
          subst hv134
          refine lv_aload_n hx hb d_M_order_151 rfl (lv_at hl 1 rfl) ?_
          refine lv_iload_n hx hb d_M_order_152 rfl (lv_at hl 4 rfl) ?_
          refine z_callR (va_runV (C := "ValueTreesModel") (As := [.int (nI b)]) (rest := [.int 0, .ref (mm 0)]) ⟨hx, hb, hml, hown, hts⟩ (c_M_rank l D dT _ mm wd lf rt tc ty F sz Wk wz dg dc sh hM hF b (by omega)) ⟨callB_of 1 hts (gI gd_up gd_c q766) rfl rfl rfl (ht _ q10) (ht _ q763) hd_M_rank ⟨by show 1 + 1 ≤ d + 1 + 4; omega, by show 8 + (3 + 11) + 21 ≤ 25 * (d + 1) + 100; omega⟩, ht _ q765, ht _ qs44⟩ (z_preV hK (va_recv hK.1 hM.1 (ci := 10) (q0 := 0) rfl rfl)) rfl rfl hl.1 rfl (lv_room (Nat.le_of_ble_eq_true rfl)) d_M_order_153 ⟨Nat.zero_le _, Nat.zero_le _⟩) (fun v137 hv136 => ?_)
          have hv136 : v137 = .int 1 := hv136.trans (by rw [gb]; first | rfl | decide | simp)
          subst hv136
          refine z_callR (va_runV (C := "ValueTreesModel") (As := [.int 0, .int 1]) (rest := []) ⟨hx, hb, hml, hown, hts⟩ (c_M_sign l D dT _ (mm 0) 0 1) ⟨callB_of 2 hts (gI gd_up gd_c q747) rfl rfl rfl (ht _ q10) (ht _ q744) hd_M_sign ⟨by show 0 + 1 ≤ d + 1 + 4; omega, by show 8 + (3 + 11) + 0 ≤ 25 * (d + 1) + 100; omega⟩, ht _ q746, ht _ qs40⟩ (z_preV hK (va_recv hK.1 hM.1 (ci := 10) (q0 := 0) rfl rfl)) rfl rfl hl.1 rfl (lv_room (Nat.le_of_ble_eq_true rfl)) d_M_order_156 ⟨Nat.zero_le _, Nat.zero_le _⟩) (fun v139 hv138 => ?_)
          have hv138 : v139 = .int (-1) := hv138.trans (by first | rfl | decide | simp)
          subst hv138
          refine lv_istore (lv' := [(5, .int (-1)), (4, .int (nI (tW (tb t)))), (0, .ref (mm 0)), (1, .int (nI t)), (2, .int (nI a)), (3, .int (nI b))]) hx hb d_M_order_159 hl (by decide) rfl (fun ls hl => ?_)
          refine lv_iload hx hb d_M_order_161 (lv_at hl 0 rfl) ?_
          refine lv_if_ne (tgt := 178) hx hb d_M_order_163 (by decide) (fun _ => ?_) (fun c140 => absurd c140 (by decide))
          refine lv_iload hx hb d_M_order_178 (lv_at hl 0 rfl) ?_
          exact z_iretQ hx hb hr hlocks d_M_order_180 hS (Nat.le_refl _) (Nat.le_refl _) ⟨rfl, dg, dc, sh, hM⟩
      · rcases w_opt hcw hwd with rfl | ⟨y, rfl, hyy⟩
        · rw [f_sub] at hfv
          rw [l_sub] at hav
          have ga : F (a + 1) = 9 := hfv.2.1
          rw [f_var] at hfw
          rw [l_var] at haw
          have gb : F (b + 1) = 6 := by rw [hfw.2]; simp [vtag, ht1]
          refine lv_aload_n hx hb d_M_order_0 rfl (lv_at hl 0 rfl) ?_
          refine va_get (D := D) (ci := 10) (v := .ref (mm 1)) (C := "ValueTreesModel") (T := T_M) (N := 12) hx hb ht in_M hown hK.1 hM.1 0 rfl rfl 0 (by decide) (ht _ q539) (fun _ h9 => h9) rfl d_M_order_1 ?_
          refine lv_iload_n hx hb d_M_order_4 rfl (lv_at hl 1 rfl) ?_
          refine z_iald hx hb hK (hM.1 1 _ rfl) t rfl (by omega) (by decide) d_M_order_5 ?_
          rw [e1]
          refine lv_istore (lv' := [(4, .int (nI (tW (tb t)))), (0, .ref (mm 0)), (1, .int (nI t)), (2, .int (nI a)), (3, .int (nI b))]) hx hb d_M_order_6 hl (by decide) rfl (fun ls hl => ?_)
          refine lv_iload hx hb d_M_order_8 (lv_at hl 0 rfl) ?_
          refine z_callR (va_runS (As := [.int (nI (tW (tb t)))]) (rest := []) ⟨hx, hb, hml, hown, hts⟩ (c_M_isNumber l D dT _ (nI (tW (tb t)))) ⟨callB_of 1 hts (gI gd_up gd_c q622) rfl rfl rfl (ht _ q10) (ht _ q620) hd_M_isNumber ⟨by show 0 + 1 ≤ d + 1 + 4; omega, by show 8 + (1 + 11) + 0 ≤ 25 * (d + 1) + 100; omega⟩, ht _ q621⟩ (z_preS hK) rfl rfl hl.1 rfl (lv_room (Nat.le_of_ble_eq_true rfl)) d_M_order_10 ⟨Nat.zero_le _, Nat.zero_le _⟩) (fun v142 hv141 => ?_)
          have hv141 : v142 = .int (if isNum (nI (tW (tb t))) then 1 else 0) := hv141
          rw [if_neg (fun h9 => absurd ((isNum_nI (by omega)).mp h9) (by omega))] at hv141
          subst hv141
          refine lv_if_eq (tgt := 23) hx hb d_M_order_13 (by decide) (fun _ => ?_) (fun c144 => absurd c144 (by decide))
          refine lv_iload hx hb d_M_order_23 (lv_at hl 0 rfl) ?_
          refine z_callR (va_runS (As := [.int (nI (tW (tb t)))]) (rest := []) ⟨hx, hb, hml, hown, hts⟩ (c_M_isRow l D dT _ (nI (tW (tb t)))) ⟨callB_of 1 hts (gI gd_up gd_c q750) rfl rfl rfl (ht _ q10) (ht _ q748) hd_M_isRow ⟨by show 0 + 1 ≤ d + 1 + 4; omega, by show 8 + (1 + 11) + 0 ≤ 25 * (d + 1) + 100; omega⟩, ht _ q749⟩ (z_preS hK) rfl rfl hl.1 rfl (lv_room (Nat.le_of_ble_eq_true rfl)) d_M_order_25 ⟨Nat.zero_le _, Nat.zero_le _⟩) (fun v146 hv145 => ?_)
          have hv145 : v146 = .int (if isRw (nI (tW (tb t))) then 1 else 0) := hv145
          rw [if_neg (fun h9 => absurd ((isRw_nI (by omega)).mp h9) (by omega))] at hv145
          subst hv145
          refine lv_if_eq (tgt := 38) hx hb d_M_order_28 (by decide) (fun _ => ?_) (fun c148 => absurd c148 (by decide))
          refine lv_iload hx hb d_M_order_38 (lv_at hl 0 rfl) ?_
          refine lv_bipush (v := 18) hx hb d_M_order_40 (by decide) ?_
          refine lv_icmp_ne (tgt := 110) hx hb d_M_order_42 (by decide) (fun c149 => ?_) (fun c149 => absurd ((nI_eq (a := (tW (tb t))) (b := 18) (by omega) (by omega)).mp c149) (by omega))
          refine lv_iload hx hb d_M_order_110 (lv_at hl 0 rfl) ?_
          refine lv_if_eq (tgt := 121) hx hb d_M_order_112 (by decide) (fun c150 => absurd ((nI_eq (a := (tW (tb t))) (b := 0) (by omega) (by omega)).mp c150) (by omega)) (fun c150 => ?_)
          refine lv_iload hx hb d_M_order_115 (lv_at hl 0 rfl) ?_
          refine lv_iconst (v := 1) hx hb d_M_order_117 (by decide) ?_
          refine lv_icmp_ne (tgt := 145) hx hb d_M_order_118 (by decide) (fun c151 => ?_) (fun c151 => absurd ((nI_eq (a := (tW (tb t))) (b := 1) (by omega) (by omega)).mp c151) (by omega))
          refine lv_aload_n hx hb d_M_order_145 rfl (lv_at hl 1 rfl) ?_
          refine lv_aload_n hx hb d_M_order_146 rfl (lv_at hl 1 rfl) ?_
          refine lv_iload_n hx hb d_M_order_147 rfl (lv_at hl 3 rfl) ?_
          refine z_callR (va_runV (C := "ValueTreesModel") (As := [.int (nI a)]) (rest := [.ref (mm 0)]) ⟨hx, hb, hml, hown, hts⟩ (c_M_rank l D dT _ mm wd lf rt tc ty F sz Wk wz dg dc sh hM hF a (by omega)) ⟨callB_of 1 hts (gI gd_up gd_c q766) rfl rfl rfl (ht _ q10) (ht _ q763) hd_M_rank ⟨by show 1 + 1 ≤ d + 1 + 4; omega, by show 8 + (3 + 11) + 21 ≤ 25 * (d + 1) + 100; omega⟩, ht _ q765, ht _ qs44⟩ (z_preV hK (va_recv hK.1 hM.1 (ci := 10) (q0 := 0) rfl rfl)) rfl rfl hl.1 rfl (lv_room (Nat.le_of_ble_eq_true rfl)) d_M_order_148 ⟨Nat.zero_le _, Nat.zero_le _⟩) (fun v153 hv152 => ?_)
          have hv152 : v153 = .int 1 := hv152.trans (by rw [ga]; first | rfl | decide | simp)
          subst hv152
          refine lv_aload_n hx hb d_M_order_151 rfl (lv_at hl 1 rfl) ?_
          refine lv_iload_n hx hb d_M_order_152 rfl (lv_at hl 4 rfl) ?_
          refine z_callR (va_runV (C := "ValueTreesModel") (As := [.int (nI b)]) (rest := [.int 1, .ref (mm 0)]) ⟨hx, hb, hml, hown, hts⟩ (c_M_rank l D dT _ mm wd lf rt tc ty F sz Wk wz dg dc sh hM hF b (by omega)) ⟨callB_of 1 hts (gI gd_up gd_c q766) rfl rfl rfl (ht _ q10) (ht _ q763) hd_M_rank ⟨by show 1 + 1 ≤ d + 1 + 4; omega, by show 8 + (3 + 11) + 21 ≤ 25 * (d + 1) + 100; omega⟩, ht _ q765, ht _ qs44⟩ (z_preV hK (va_recv hK.1 hM.1 (ci := 10) (q0 := 0) rfl rfl)) rfl rfl hl.1 rfl (lv_room (Nat.le_of_ble_eq_true rfl)) d_M_order_153 ⟨Nat.zero_le _, Nat.zero_le _⟩) (fun v155 hv154 => ?_)
          have hv154 : v155 = .int 0 := hv154.trans (by rw [gb]; first | rfl | decide | simp)
          subst hv154
          refine z_callR (va_runV (C := "ValueTreesModel") (As := [.int 1, .int 0]) (rest := []) ⟨hx, hb, hml, hown, hts⟩ (c_M_sign l D dT _ (mm 0) 1 0) ⟨callB_of 2 hts (gI gd_up gd_c q747) rfl rfl rfl (ht _ q10) (ht _ q744) hd_M_sign ⟨by show 0 + 1 ≤ d + 1 + 4; omega, by show 8 + (3 + 11) + 0 ≤ 25 * (d + 1) + 100; omega⟩, ht _ q746, ht _ qs40⟩ (z_preV hK (va_recv hK.1 hM.1 (ci := 10) (q0 := 0) rfl rfl)) rfl rfl hl.1 rfl (lv_room (Nat.le_of_ble_eq_true rfl)) d_M_order_156 ⟨Nat.zero_le _, Nat.zero_le _⟩) (fun v157 hv156 => ?_)
          have hv156 : v157 = .int 1 := hv156.trans (by first | rfl | decide | simp)
          subst hv156
          refine lv_istore (lv' := [(5, .int 1), (4, .int (nI (tW (tb t)))), (0, .ref (mm 0)), (1, .int (nI t)), (2, .int (nI a)), (3, .int (nI b))]) hx hb d_M_order_159 hl (by decide) rfl (fun ls hl => ?_)
          refine lv_iload hx hb d_M_order_161 (lv_at hl 0 rfl) ?_
          refine lv_if_ne (tgt := 178) hx hb d_M_order_163 (by decide) (fun _ => ?_) (fun c158 => absurd c158 (by decide))
          refine lv_iload hx hb d_M_order_178 (lv_at hl 0 rfl) ?_
          exact z_iretQ hx hb hr hlocks d_M_order_180 hS (Nat.le_refl _) (Nat.le_refl _) ⟨rfl, dg, dc, sh, hM⟩
        · rw [f_sub] at hfv
          rw [l_sub] at hav
          have ga : F (a + 1) = 9 := hfv.2.1
          rw [f_sub] at hfw
          rw [l_sub] at haw
          have gb : F (b + 1) = 9 := hfw.2.1
          refine lv_aload_n hx hb d_M_order_0 rfl (lv_at hl 0 rfl) ?_
          refine va_get (D := D) (ci := 10) (v := .ref (mm 1)) (C := "ValueTreesModel") (T := T_M) (N := 12) hx hb ht in_M hown hK.1 hM.1 0 rfl rfl 0 (by decide) (ht _ q539) (fun _ h9 => h9) rfl d_M_order_1 ?_
          refine lv_iload_n hx hb d_M_order_4 rfl (lv_at hl 1 rfl) ?_
          refine z_iald hx hb hK (hM.1 1 _ rfl) t rfl (by omega) (by decide) d_M_order_5 ?_
          rw [e1]
          refine lv_istore (lv' := [(4, .int (nI (tW (tb t)))), (0, .ref (mm 0)), (1, .int (nI t)), (2, .int (nI a)), (3, .int (nI b))]) hx hb d_M_order_6 hl (by decide) rfl (fun ls hl => ?_)
          refine lv_iload hx hb d_M_order_8 (lv_at hl 0 rfl) ?_
          refine z_callR (va_runS (As := [.int (nI (tW (tb t)))]) (rest := []) ⟨hx, hb, hml, hown, hts⟩ (c_M_isNumber l D dT _ (nI (tW (tb t)))) ⟨callB_of 1 hts (gI gd_up gd_c q622) rfl rfl rfl (ht _ q10) (ht _ q620) hd_M_isNumber ⟨by show 0 + 1 ≤ d + 1 + 4; omega, by show 8 + (1 + 11) + 0 ≤ 25 * (d + 1) + 100; omega⟩, ht _ q621⟩ (z_preS hK) rfl rfl hl.1 rfl (lv_room (Nat.le_of_ble_eq_true rfl)) d_M_order_10 ⟨Nat.zero_le _, Nat.zero_le _⟩) (fun v160 hv159 => ?_)
          have hv159 : v160 = .int (if isNum (nI (tW (tb t))) then 1 else 0) := hv159
          rw [if_neg (fun h9 => absurd ((isNum_nI (by omega)).mp h9) (by omega))] at hv159
          subst hv159
          refine lv_if_eq (tgt := 23) hx hb d_M_order_13 (by decide) (fun _ => ?_) (fun c162 => absurd c162 (by decide))
          refine lv_iload hx hb d_M_order_23 (lv_at hl 0 rfl) ?_
          refine z_callR (va_runS (As := [.int (nI (tW (tb t)))]) (rest := []) ⟨hx, hb, hml, hown, hts⟩ (c_M_isRow l D dT _ (nI (tW (tb t)))) ⟨callB_of 1 hts (gI gd_up gd_c q750) rfl rfl rfl (ht _ q10) (ht _ q748) hd_M_isRow ⟨by show 0 + 1 ≤ d + 1 + 4; omega, by show 8 + (1 + 11) + 0 ≤ 25 * (d + 1) + 100; omega⟩, ht _ q749⟩ (z_preS hK) rfl rfl hl.1 rfl (lv_room (Nat.le_of_ble_eq_true rfl)) d_M_order_25 ⟨Nat.zero_le _, Nat.zero_le _⟩) (fun v164 hv163 => ?_)
          have hv163 : v164 = .int (if isRw (nI (tW (tb t))) then 1 else 0) := hv163
          rw [if_neg (fun h9 => absurd ((isRw_nI (by omega)).mp h9) (by omega))] at hv163
          subst hv163
          refine lv_if_eq (tgt := 38) hx hb d_M_order_28 (by decide) (fun _ => ?_) (fun c166 => absurd c166 (by decide))
          refine lv_iload hx hb d_M_order_38 (lv_at hl 0 rfl) ?_
          refine lv_bipush (v := 18) hx hb d_M_order_40 (by decide) ?_
          refine lv_icmp_ne (tgt := 110) hx hb d_M_order_42 (by decide) (fun c167 => ?_) (fun c167 => absurd ((nI_eq (a := (tW (tb t))) (b := 18) (by omega) (by omega)).mp c167) (by omega))
          refine lv_iload hx hb d_M_order_110 (lv_at hl 0 rfl) ?_
          refine lv_if_eq (tgt := 121) hx hb d_M_order_112 (by decide) (fun c168 => absurd ((nI_eq (a := (tW (tb t))) (b := 0) (by omega) (by omega)).mp c168) (by omega)) (fun c168 => ?_)
          refine lv_iload hx hb d_M_order_115 (lv_at hl 0 rfl) ?_
          refine lv_iconst (v := 1) hx hb d_M_order_117 (by decide) ?_
          refine lv_icmp_ne (tgt := 145) hx hb d_M_order_118 (by decide) (fun c169 => ?_) (fun c169 => absurd ((nI_eq (a := (tW (tb t))) (b := 1) (by omega) (by omega)).mp c169) (by omega))
          refine lv_aload_n hx hb d_M_order_145 rfl (lv_at hl 1 rfl) ?_
          refine lv_aload_n hx hb d_M_order_146 rfl (lv_at hl 1 rfl) ?_
          refine lv_iload_n hx hb d_M_order_147 rfl (lv_at hl 3 rfl) ?_
          refine z_callR (va_runV (C := "ValueTreesModel") (As := [.int (nI a)]) (rest := [.ref (mm 0)]) ⟨hx, hb, hml, hown, hts⟩ (c_M_rank l D dT _ mm wd lf rt tc ty F sz Wk wz dg dc sh hM hF a (by omega)) ⟨callB_of 1 hts (gI gd_up gd_c q766) rfl rfl rfl (ht _ q10) (ht _ q763) hd_M_rank ⟨by show 1 + 1 ≤ d + 1 + 4; omega, by show 8 + (3 + 11) + 21 ≤ 25 * (d + 1) + 100; omega⟩, ht _ q765, ht _ qs44⟩ (z_preV hK (va_recv hK.1 hM.1 (ci := 10) (q0 := 0) rfl rfl)) rfl rfl hl.1 rfl (lv_room (Nat.le_of_ble_eq_true rfl)) d_M_order_148 ⟨Nat.zero_le _, Nat.zero_le _⟩) (fun v171 hv170 => ?_)
          have hv170 : v171 = .int 1 := hv170.trans (by rw [ga]; first | rfl | decide | simp)
          subst hv170
          refine lv_aload_n hx hb d_M_order_151 rfl (lv_at hl 1 rfl) ?_
          refine lv_iload_n hx hb d_M_order_152 rfl (lv_at hl 4 rfl) ?_
          refine z_callR (va_runV (C := "ValueTreesModel") (As := [.int (nI b)]) (rest := [.int 1, .ref (mm 0)]) ⟨hx, hb, hml, hown, hts⟩ (c_M_rank l D dT _ mm wd lf rt tc ty F sz Wk wz dg dc sh hM hF b (by omega)) ⟨callB_of 1 hts (gI gd_up gd_c q766) rfl rfl rfl (ht _ q10) (ht _ q763) hd_M_rank ⟨by show 1 + 1 ≤ d + 1 + 4; omega, by show 8 + (3 + 11) + 21 ≤ 25 * (d + 1) + 100; omega⟩, ht _ q765, ht _ qs44⟩ (z_preV hK (va_recv hK.1 hM.1 (ci := 10) (q0 := 0) rfl rfl)) rfl rfl hl.1 rfl (lv_room (Nat.le_of_ble_eq_true rfl)) d_M_order_153 ⟨Nat.zero_le _, Nat.zero_le _⟩) (fun v173 hv172 => ?_)
          have hv172 : v173 = .int 1 := hv172.trans (by rw [gb]; first | rfl | decide | simp)
          subst hv172
          refine z_callR (va_runV (C := "ValueTreesModel") (As := [.int 1, .int 1]) (rest := []) ⟨hx, hb, hml, hown, hts⟩ (c_M_sign l D dT _ (mm 0) 1 1) ⟨callB_of 2 hts (gI gd_up gd_c q747) rfl rfl rfl (ht _ q10) (ht _ q744) hd_M_sign ⟨by show 0 + 1 ≤ d + 1 + 4; omega, by show 8 + (3 + 11) + 0 ≤ 25 * (d + 1) + 100; omega⟩, ht _ q746, ht _ qs40⟩ (z_preV hK (va_recv hK.1 hM.1 (ci := 10) (q0 := 0) rfl rfl)) rfl rfl hl.1 rfl (lv_room (Nat.le_of_ble_eq_true rfl)) d_M_order_156 ⟨Nat.zero_le _, Nat.zero_le _⟩) (fun v175 hv174 => ?_)
          have hv174 : v175 = .int 0 := hv174.trans (by first | rfl | decide | simp)
          subst hv174
          refine lv_istore (lv' := [(5, .int 0), (4, .int (nI (tW (tb t)))), (0, .ref (mm 0)), (1, .int (nI t)), (2, .int (nI a)), (3, .int (nI b))]) hx hb d_M_order_159 hl (by decide) rfl (fun ls hl => ?_)
          refine lv_iload hx hb d_M_order_161 (lv_at hl 0 rfl) ?_
          refine lv_if_ne (tgt := 178) hx hb d_M_order_163 (by decide) (fun c176 => absurd c176 (by decide)) (fun _ => ?_)
          refine lv_aload_n hx hb d_M_order_166 rfl (lv_at hl 2 rfl) ?_
          refine lv_iload_n hx hb d_M_order_167 rfl (lv_at hl 4 rfl) ?_
          refine lv_iconst (v := 1) hx hb d_M_order_168 (by decide) ?_
          refine lv_iadd hx hb d_M_order_169 ?_
          rw [show (((nI a) + 1) : Int32) = nI (a + 1) from nI_add a 1]
          refine z_callR (va_runV (C := "ValueTreesModel") (As := [.int (nI (a + 1))]) (rest := []) ⟨hx, hb, hml, hown, hts⟩ (c_M_byteOf l D dT _ mm wd lf rt tc ty F sz Wk wz dg dc sh hM (a + 1) (by omega) (hF _)) ⟨callB_of 1 hts (gI gd_up gd_c q670) rfl rfl rfl (ht _ q10) (ht _ q667) hd_M_byteOf ⟨by show 0 + 1 ≤ d + 1 + 4; omega, by show 8 + (2 + 11) + 0 ≤ 25 * (d + 1) + 100; omega⟩, ht _ q669, ht _ qs29⟩ (z_preV hK (va_recv hK.1 hM.1 (ci := 10) (q0 := 0) rfl rfl)) rfl rfl hl.1 rfl (lv_room (Nat.le_of_ble_eq_true rfl)) d_M_order_170 ⟨Nat.zero_le _, Nat.zero_le _⟩) (fun v178 hv177 => ?_)
          subst hv177
          rw [ga]
          refine lv_bipush (v := 6) hx hb d_M_order_173 (by decide) ?_
          refine lv_icmp_ne (tgt := 181) hx hb d_M_order_175 (by decide) (fun c179 => ?_) (fun c179 => absurd ((nI_eq (a := 9) (b := 6) (by omega) (by omega)).mp c179) (by omega))
          refine lv_aload_n hx hb d_M_order_181 rfl (lv_at hl 2 rfl) ?_
          refine lv_iload hx hb d_M_order_182 (lv_at hl 1 rfl) ?_
          refine lv_bipush (v := 14) hx hb d_M_order_184 (by decide) ?_
          refine lv_icmp_ne (tgt := 207) hx hb d_M_order_186 (by decide) (fun c180 => ?_) (fun c180 => absurd ((nI_eq (a := (tW (tb t))) (b := 14) (by omega) (by omega)).mp c180) (by omega))
          refine lv_aload_n hx hb d_M_order_207 rfl (lv_at hl 2 rfl) ?_
          refine va_get (D := D) (ci := 10) (v := .ref (mm 2)) (C := "ValueTreesModel") (T := T_M) (N := 12) hx hb ht in_M hown hK.1 hM.1 0 rfl rfl 1 (by decide) (ht _ q540) (fun _ h9 => h9) rfl d_M_order_208 ?_
          refine lv_iload_n hx hb d_M_order_211 rfl (lv_at hl 3 rfl) ?_
          refine z_iald hx hb hK (hM.1 2 _ rfl) t rfl (by omega) (by decide) d_M_order_212 ?_
          rw [e2]
          refine lv_iload_n hx hb d_M_order_213 rfl (lv_at hl 4 rfl) ?_
          refine lv_iconst (v := 2) hx hb d_M_order_214 (by decide) ?_
          refine lv_iadd hx hb d_M_order_215 ?_
          rw [show (((nI a) + 2) : Int32) = nI (a + 2) from nI_add a 2]
          refine lv_iload_n hx hb d_M_order_216 rfl (lv_at hl 5 rfl) ?_
          refine lv_iconst (v := 2) hx hb d_M_order_217 (by decide) ?_
          refine lv_iadd hx hb d_M_order_218 ?_
          rw [show (((nI b) + 2) : Int32) = nI (b + 2) from nI_add b 2]
          refine z_callQ (va_runV (C := "ValueTreesModel") (As := [.int (nI (lt_ tb t)), .int (nI (a + 2)), .int (nI (b + 2))]) (rest := []) ⟨hx, hb, hml, hown, hts⟩ (ih _ dg dc sh (lt_ tb t) x y (a + 2) (b + 2) hM (by omega) (by omega) hcl hxx hyy hfv.2.2 hfw.2.2 (by omega) (by omega)) ⟨callB_of 3 hts (gI gd_up gd_c q739) rfl rfl rfl (ht _ q10) (ht _ q736) hd_M_order ⟨by show d + 4 + 1 ≤ d + 1 + 4; omega, by show 8 + (6 + 11) + 25 * d + 100 ≤ 25 * (d + 1) + 100; omega⟩, ht _ q738, ht _ qs38⟩ (z_preV hK (va_recv hK.1 hM.1 (ci := 10) (q0 := 0) rfl rfl)) rfl rfl hl.1 rfl (lv_room (Nat.le_of_ble_eq_true rfl)) d_M_order_219 ⟨Nat.le_refl _, Nat.le_refl _⟩) hS (fun _ h9 => h9) (fun v182 H locs hv181 hz183 hf184 hS => ?_)
          obtain ⟨rfl, dg, dc, sh, hM⟩ := hv181
          refine W.eq (g2 := F0 m 222 ls [.int (vo x y)]) rfl ?_
          exact z_iretQ hx hb hr hlocks d_M_order_222 hS (Nat.le_refl _) (Nat.le_refl _) ⟨rfl, dg, dc, sh, hM⟩
    · obtain ⟨hL, hlt, hlp⟩ := tl_some hO htl (by omega)
      rw [hL] at e2
      have e2 : lf t = nI (lt_ tb t) := e2
      obtain ⟨hRr, hrt, hrp⟩ := tr_some hO htl (by omega)
      rw [hRr] at e3
      have e3 : rt t = nI (rt_ tb t) := e3
      rcases w_or hcv hwd with ⟨x, rfl, hxx⟩ | ⟨x, rfl, hxx⟩
      · rcases w_or hcw hwd with ⟨y, rfl, hyy⟩ | ⟨y, rfl, hyy⟩
        · rw [f_sub] at hfv hfw
          rw [l_sub] at hav haw
          have ga : F (a + 1) = 5 := hfv.2.1
          have gb : F (b + 1) = 5 := hfw.2.1
          refine lv_aload_n hx hb d_M_order_0 rfl (lv_at hl 0 rfl) ?_
          refine va_get (D := D) (ci := 10) (v := .ref (mm 1)) (C := "ValueTreesModel") (T := T_M) (N := 12) hx hb ht in_M hown hK.1 hM.1 0 rfl rfl 0 (by decide) (ht _ q539) (fun _ h9 => h9) rfl d_M_order_1 ?_
          refine lv_iload_n hx hb d_M_order_4 rfl (lv_at hl 1 rfl) ?_
          refine z_iald hx hb hK (hM.1 1 _ rfl) t rfl (by omega) (by decide) d_M_order_5 ?_
          rw [e1]
          refine lv_istore (lv' := [(4, .int (nI (tW (tb t)))), (0, .ref (mm 0)), (1, .int (nI t)), (2, .int (nI a)), (3, .int (nI b))]) hx hb d_M_order_6 hl (by decide) rfl (fun ls hl => ?_)
          refine lv_iload hx hb d_M_order_8 (lv_at hl 0 rfl) ?_
          refine z_callR (va_runS (As := [.int (nI (tW (tb t)))]) (rest := []) ⟨hx, hb, hml, hown, hts⟩ (c_M_isNumber l D dT _ (nI (tW (tb t)))) ⟨callB_of 1 hts (gI gd_up gd_c q622) rfl rfl rfl (ht _ q10) (ht _ q620) hd_M_isNumber ⟨by show 0 + 1 ≤ d + 1 + 4; omega, by show 8 + (1 + 11) + 0 ≤ 25 * (d + 1) + 100; omega⟩, ht _ q621⟩ (z_preS hK) rfl rfl hl.1 rfl (lv_room (Nat.le_of_ble_eq_true rfl)) d_M_order_10 ⟨Nat.zero_le _, Nat.zero_le _⟩) (fun v186 hv185 => ?_)
          have hv185 : v186 = .int (if isNum (nI (tW (tb t))) then 1 else 0) := hv185
          rw [if_neg (fun h9 => absurd ((isNum_nI (by omega)).mp h9) (by omega))] at hv185
          subst hv185
          refine lv_if_eq (tgt := 23) hx hb d_M_order_13 (by decide) (fun _ => ?_) (fun c188 => absurd c188 (by decide))
          refine lv_iload hx hb d_M_order_23 (lv_at hl 0 rfl) ?_
          refine z_callR (va_runS (As := [.int (nI (tW (tb t)))]) (rest := []) ⟨hx, hb, hml, hown, hts⟩ (c_M_isRow l D dT _ (nI (tW (tb t)))) ⟨callB_of 1 hts (gI gd_up gd_c q750) rfl rfl rfl (ht _ q10) (ht _ q748) hd_M_isRow ⟨by show 0 + 1 ≤ d + 1 + 4; omega, by show 8 + (1 + 11) + 0 ≤ 25 * (d + 1) + 100; omega⟩, ht _ q749⟩ (z_preS hK) rfl rfl hl.1 rfl (lv_room (Nat.le_of_ble_eq_true rfl)) d_M_order_25 ⟨Nat.zero_le _, Nat.zero_le _⟩) (fun v190 hv189 => ?_)
          have hv189 : v190 = .int (if isRw (nI (tW (tb t))) then 1 else 0) := hv189
          rw [if_neg (fun h9 => absurd ((isRw_nI (by omega)).mp h9) (by omega))] at hv189
          subst hv189
          refine lv_if_eq (tgt := 38) hx hb d_M_order_28 (by decide) (fun _ => ?_) (fun c192 => absurd c192 (by decide))
          refine lv_iload hx hb d_M_order_38 (lv_at hl 0 rfl) ?_
          refine lv_bipush (v := 18) hx hb d_M_order_40 (by decide) ?_
          refine lv_icmp_ne (tgt := 110) hx hb d_M_order_42 (by decide) (fun c193 => ?_) (fun c193 => absurd ((nI_eq (a := (tW (tb t))) (b := 18) (by omega) (by omega)).mp c193) (by omega))
          refine lv_iload hx hb d_M_order_110 (lv_at hl 0 rfl) ?_
          refine lv_if_eq (tgt := 121) hx hb d_M_order_112 (by decide) (fun c194 => absurd ((nI_eq (a := (tW (tb t))) (b := 0) (by omega) (by omega)).mp c194) (by omega)) (fun c194 => ?_)
          refine lv_iload hx hb d_M_order_115 (lv_at hl 0 rfl) ?_
          refine lv_iconst (v := 1) hx hb d_M_order_117 (by decide) ?_
          refine lv_icmp_ne (tgt := 145) hx hb d_M_order_118 (by decide) (fun c195 => ?_) (fun c195 => absurd ((nI_eq (a := (tW (tb t))) (b := 1) (by omega) (by omega)).mp c195) (by omega))
          refine lv_aload_n hx hb d_M_order_145 rfl (lv_at hl 1 rfl) ?_
          refine lv_aload_n hx hb d_M_order_146 rfl (lv_at hl 1 rfl) ?_
          refine lv_iload_n hx hb d_M_order_147 rfl (lv_at hl 3 rfl) ?_
          refine z_callR (va_runV (C := "ValueTreesModel") (As := [.int (nI a)]) (rest := [.ref (mm 0)]) ⟨hx, hb, hml, hown, hts⟩ (c_M_rank l D dT _ mm wd lf rt tc ty F sz Wk wz dg dc sh hM hF a (by omega)) ⟨callB_of 1 hts (gI gd_up gd_c q766) rfl rfl rfl (ht _ q10) (ht _ q763) hd_M_rank ⟨by show 1 + 1 ≤ d + 1 + 4; omega, by show 8 + (3 + 11) + 21 ≤ 25 * (d + 1) + 100; omega⟩, ht _ q765, ht _ qs44⟩ (z_preV hK (va_recv hK.1 hM.1 (ci := 10) (q0 := 0) rfl rfl)) rfl rfl hl.1 rfl (lv_room (Nat.le_of_ble_eq_true rfl)) d_M_order_148 ⟨Nat.zero_le _, Nat.zero_le _⟩) (fun v197 hv196 => ?_)
          have hv196 : v197 = .int 0 := hv196.trans (by rw [ga]; first | rfl | decide | simp)
          subst hv196
          refine lv_aload_n hx hb d_M_order_151 rfl (lv_at hl 1 rfl) ?_
          refine lv_iload_n hx hb d_M_order_152 rfl (lv_at hl 4 rfl) ?_
          refine z_callR (va_runV (C := "ValueTreesModel") (As := [.int (nI b)]) (rest := [.int 0, .ref (mm 0)]) ⟨hx, hb, hml, hown, hts⟩ (c_M_rank l D dT _ mm wd lf rt tc ty F sz Wk wz dg dc sh hM hF b (by omega)) ⟨callB_of 1 hts (gI gd_up gd_c q766) rfl rfl rfl (ht _ q10) (ht _ q763) hd_M_rank ⟨by show 1 + 1 ≤ d + 1 + 4; omega, by show 8 + (3 + 11) + 21 ≤ 25 * (d + 1) + 100; omega⟩, ht _ q765, ht _ qs44⟩ (z_preV hK (va_recv hK.1 hM.1 (ci := 10) (q0 := 0) rfl rfl)) rfl rfl hl.1 rfl (lv_room (Nat.le_of_ble_eq_true rfl)) d_M_order_153 ⟨Nat.zero_le _, Nat.zero_le _⟩) (fun v199 hv198 => ?_)
          have hv198 : v199 = .int 0 := hv198.trans (by rw [gb]; first | rfl | decide | simp)
          subst hv198
          refine z_callR (va_runV (C := "ValueTreesModel") (As := [.int 0, .int 0]) (rest := []) ⟨hx, hb, hml, hown, hts⟩ (c_M_sign l D dT _ (mm 0) 0 0) ⟨callB_of 2 hts (gI gd_up gd_c q747) rfl rfl rfl (ht _ q10) (ht _ q744) hd_M_sign ⟨by show 0 + 1 ≤ d + 1 + 4; omega, by show 8 + (3 + 11) + 0 ≤ 25 * (d + 1) + 100; omega⟩, ht _ q746, ht _ qs40⟩ (z_preV hK (va_recv hK.1 hM.1 (ci := 10) (q0 := 0) rfl rfl)) rfl rfl hl.1 rfl (lv_room (Nat.le_of_ble_eq_true rfl)) d_M_order_156 ⟨Nat.zero_le _, Nat.zero_le _⟩) (fun v201 hv200 => ?_)
          have hv200 : v201 = .int 0 := hv200.trans (by first | rfl | decide | simp)
          subst hv200
          refine lv_istore (lv' := [(5, .int 0), (4, .int (nI (tW (tb t)))), (0, .ref (mm 0)), (1, .int (nI t)), (2, .int (nI a)), (3, .int (nI b))]) hx hb d_M_order_159 hl (by decide) rfl (fun ls hl => ?_)
          refine lv_iload hx hb d_M_order_161 (lv_at hl 0 rfl) ?_
          refine lv_if_ne (tgt := 178) hx hb d_M_order_163 (by decide) (fun c202 => absurd c202 (by decide)) (fun _ => ?_)
          refine lv_aload_n hx hb d_M_order_166 rfl (lv_at hl 2 rfl) ?_
          refine lv_iload_n hx hb d_M_order_167 rfl (lv_at hl 4 rfl) ?_
          refine lv_iconst (v := 1) hx hb d_M_order_168 (by decide) ?_
          refine lv_iadd hx hb d_M_order_169 ?_
          rw [show (((nI a) + 1) : Int32) = nI (a + 1) from nI_add a 1]
          refine z_callR (va_runV (C := "ValueTreesModel") (As := [.int (nI (a + 1))]) (rest := []) ⟨hx, hb, hml, hown, hts⟩ (c_M_byteOf l D dT _ mm wd lf rt tc ty F sz Wk wz dg dc sh hM (a + 1) (by omega) (hF _)) ⟨callB_of 1 hts (gI gd_up gd_c q670) rfl rfl rfl (ht _ q10) (ht _ q667) hd_M_byteOf ⟨by show 0 + 1 ≤ d + 1 + 4; omega, by show 8 + (2 + 11) + 0 ≤ 25 * (d + 1) + 100; omega⟩, ht _ q669, ht _ qs29⟩ (z_preV hK (va_recv hK.1 hM.1 (ci := 10) (q0 := 0) rfl rfl)) rfl rfl hl.1 rfl (lv_room (Nat.le_of_ble_eq_true rfl)) d_M_order_170 ⟨Nat.zero_le _, Nat.zero_le _⟩) (fun v204 hv203 => ?_)
          subst hv203
          rw [ga]
          refine lv_bipush (v := 6) hx hb d_M_order_173 (by decide) ?_
          refine lv_icmp_ne (tgt := 181) hx hb d_M_order_175 (by decide) (fun c205 => ?_) (fun c205 => absurd ((nI_eq (a := 5) (b := 6) (by omega) (by omega)).mp c205) (by omega))
          refine lv_aload_n hx hb d_M_order_181 rfl (lv_at hl 2 rfl) ?_
          refine lv_iload hx hb d_M_order_182 (lv_at hl 1 rfl) ?_
          refine lv_bipush (v := 14) hx hb d_M_order_184 (by decide) ?_
          refine lv_icmp_ne (tgt := 207) hx hb d_M_order_186 (by decide) (fun c206 => absurd ((nI_eq (a := (tW (tb t))) (b := 14) (by omega) (by omega)).mpr (by omega)) c206) (fun c206 => ?_)
          refine lv_aload_n hx hb d_M_order_189 rfl (lv_at hl 2 rfl) ?_
          refine lv_iload_n hx hb d_M_order_190 rfl (lv_at hl 4 rfl) ?_
          refine z_callR (va_runV (C := "ValueTreesModel") (As := [.int (nI a)]) (rest := [.ref (mm 0)]) ⟨hx, hb, hml, hown, hts⟩ (c_M_rank l D dT _ mm wd lf rt tc ty F sz Wk wz dg dc sh hM hF a (by omega)) ⟨callB_of 1 hts (gI gd_up gd_c q766) rfl rfl rfl (ht _ q10) (ht _ q763) hd_M_rank ⟨by show 1 + 1 ≤ d + 1 + 4; omega, by show 8 + (3 + 11) + 21 ≤ 25 * (d + 1) + 100; omega⟩, ht _ q765, ht _ qs44⟩ (z_preV hK (va_recv hK.1 hM.1 (ci := 10) (q0 := 0) rfl rfl)) rfl rfl hl.1 rfl (lv_room (Nat.le_of_ble_eq_true rfl)) d_M_order_191 ⟨Nat.zero_le _, Nat.zero_le _⟩) (fun v208 hv207 => ?_)
          have hv207 : v208 = .int 0 := hv207.trans (by rw [ga]; first | rfl | decide | simp)
          subst hv207
          refine lv_iconst (v := 1) hx hb d_M_order_194 (by decide) ?_
          refine lv_icmp_ne (tgt := 207) hx hb d_M_order_195 (by decide) (fun _ => ?_) (fun c209 => absurd c209 (by decide))
          refine lv_aload_n hx hb d_M_order_207 rfl (lv_at hl 2 rfl) ?_
          refine va_get (D := D) (ci := 10) (v := .ref (mm 2)) (C := "ValueTreesModel") (T := T_M) (N := 12) hx hb ht in_M hown hK.1 hM.1 0 rfl rfl 1 (by decide) (ht _ q540) (fun _ h9 => h9) rfl d_M_order_208 ?_
          refine lv_iload_n hx hb d_M_order_211 rfl (lv_at hl 3 rfl) ?_
          refine z_iald hx hb hK (hM.1 2 _ rfl) t rfl (by omega) (by decide) d_M_order_212 ?_
          rw [e2]
          refine lv_iload_n hx hb d_M_order_213 rfl (lv_at hl 4 rfl) ?_
          refine lv_iconst (v := 2) hx hb d_M_order_214 (by decide) ?_
          refine lv_iadd hx hb d_M_order_215 ?_
          rw [show (((nI a) + 2) : Int32) = nI (a + 2) from nI_add a 2]
          refine lv_iload_n hx hb d_M_order_216 rfl (lv_at hl 5 rfl) ?_
          refine lv_iconst (v := 2) hx hb d_M_order_217 (by decide) ?_
          refine lv_iadd hx hb d_M_order_218 ?_
          rw [show (((nI b) + 2) : Int32) = nI (b + 2) from nI_add b 2]
          refine z_callQ (va_runV (C := "ValueTreesModel") (As := [.int (nI (lt_ tb t)), .int (nI (a + 2)), .int (nI (b + 2))]) (rest := []) ⟨hx, hb, hml, hown, hts⟩ (ih _ dg dc sh (lt_ tb t) x y (a + 2) (b + 2) hM (by omega) (by omega) hcl hxx hyy hfv.2.2 hfw.2.2 (by omega) (by omega)) ⟨callB_of 3 hts (gI gd_up gd_c q739) rfl rfl rfl (ht _ q10) (ht _ q736) hd_M_order ⟨by show d + 4 + 1 ≤ d + 1 + 4; omega, by show 8 + (6 + 11) + 25 * d + 100 ≤ 25 * (d + 1) + 100; omega⟩, ht _ q738, ht _ qs38⟩ (z_preV hK (va_recv hK.1 hM.1 (ci := 10) (q0 := 0) rfl rfl)) rfl rfl hl.1 rfl (lv_room (Nat.le_of_ble_eq_true rfl)) d_M_order_219 ⟨Nat.le_refl _, Nat.le_refl _⟩) hS (fun _ h9 => h9) (fun v211 H locs hv210 hz212 hf213 hS => ?_)
          obtain ⟨rfl, dg, dc, sh, hM⟩ := hv210
          refine W.eq (g2 := F0 m 222 ls [.int (vo x y)]) rfl ?_
          exact z_iretQ hx hb hr hlocks d_M_order_222 hS (Nat.le_refl _) (Nat.le_refl _) ⟨rfl, dg, dc, sh, hM⟩
        · rw [f_sub] at hfv hfw
          rw [l_sub] at hav haw
          have ga : F (a + 1) = 5 := hfv.2.1
          have gb : F (b + 1) = 8 := hfw.2.1
          refine lv_aload_n hx hb d_M_order_0 rfl (lv_at hl 0 rfl) ?_
          refine va_get (D := D) (ci := 10) (v := .ref (mm 1)) (C := "ValueTreesModel") (T := T_M) (N := 12) hx hb ht in_M hown hK.1 hM.1 0 rfl rfl 0 (by decide) (ht _ q539) (fun _ h9 => h9) rfl d_M_order_1 ?_
          refine lv_iload_n hx hb d_M_order_4 rfl (lv_at hl 1 rfl) ?_
          refine z_iald hx hb hK (hM.1 1 _ rfl) t rfl (by omega) (by decide) d_M_order_5 ?_
          rw [e1]
          refine lv_istore (lv' := [(4, .int (nI (tW (tb t)))), (0, .ref (mm 0)), (1, .int (nI t)), (2, .int (nI a)), (3, .int (nI b))]) hx hb d_M_order_6 hl (by decide) rfl (fun ls hl => ?_)
          refine lv_iload hx hb d_M_order_8 (lv_at hl 0 rfl) ?_
          refine z_callR (va_runS (As := [.int (nI (tW (tb t)))]) (rest := []) ⟨hx, hb, hml, hown, hts⟩ (c_M_isNumber l D dT _ (nI (tW (tb t)))) ⟨callB_of 1 hts (gI gd_up gd_c q622) rfl rfl rfl (ht _ q10) (ht _ q620) hd_M_isNumber ⟨by show 0 + 1 ≤ d + 1 + 4; omega, by show 8 + (1 + 11) + 0 ≤ 25 * (d + 1) + 100; omega⟩, ht _ q621⟩ (z_preS hK) rfl rfl hl.1 rfl (lv_room (Nat.le_of_ble_eq_true rfl)) d_M_order_10 ⟨Nat.zero_le _, Nat.zero_le _⟩) (fun v215 hv214 => ?_)
          have hv214 : v215 = .int (if isNum (nI (tW (tb t))) then 1 else 0) := hv214
          rw [if_neg (fun h9 => absurd ((isNum_nI (by omega)).mp h9) (by omega))] at hv214
          subst hv214
          refine lv_if_eq (tgt := 23) hx hb d_M_order_13 (by decide) (fun _ => ?_) (fun c217 => absurd c217 (by decide))
          refine lv_iload hx hb d_M_order_23 (lv_at hl 0 rfl) ?_
          refine z_callR (va_runS (As := [.int (nI (tW (tb t)))]) (rest := []) ⟨hx, hb, hml, hown, hts⟩ (c_M_isRow l D dT _ (nI (tW (tb t)))) ⟨callB_of 1 hts (gI gd_up gd_c q750) rfl rfl rfl (ht _ q10) (ht _ q748) hd_M_isRow ⟨by show 0 + 1 ≤ d + 1 + 4; omega, by show 8 + (1 + 11) + 0 ≤ 25 * (d + 1) + 100; omega⟩, ht _ q749⟩ (z_preS hK) rfl rfl hl.1 rfl (lv_room (Nat.le_of_ble_eq_true rfl)) d_M_order_25 ⟨Nat.zero_le _, Nat.zero_le _⟩) (fun v219 hv218 => ?_)
          have hv218 : v219 = .int (if isRw (nI (tW (tb t))) then 1 else 0) := hv218
          rw [if_neg (fun h9 => absurd ((isRw_nI (by omega)).mp h9) (by omega))] at hv218
          subst hv218
          refine lv_if_eq (tgt := 38) hx hb d_M_order_28 (by decide) (fun _ => ?_) (fun c221 => absurd c221 (by decide))
          refine lv_iload hx hb d_M_order_38 (lv_at hl 0 rfl) ?_
          refine lv_bipush (v := 18) hx hb d_M_order_40 (by decide) ?_
          refine lv_icmp_ne (tgt := 110) hx hb d_M_order_42 (by decide) (fun c222 => ?_) (fun c222 => absurd ((nI_eq (a := (tW (tb t))) (b := 18) (by omega) (by omega)).mp c222) (by omega))
          refine lv_iload hx hb d_M_order_110 (lv_at hl 0 rfl) ?_
          refine lv_if_eq (tgt := 121) hx hb d_M_order_112 (by decide) (fun c223 => absurd ((nI_eq (a := (tW (tb t))) (b := 0) (by omega) (by omega)).mp c223) (by omega)) (fun c223 => ?_)
          refine lv_iload hx hb d_M_order_115 (lv_at hl 0 rfl) ?_
          refine lv_iconst (v := 1) hx hb d_M_order_117 (by decide) ?_
          refine lv_icmp_ne (tgt := 145) hx hb d_M_order_118 (by decide) (fun c224 => ?_) (fun c224 => absurd ((nI_eq (a := (tW (tb t))) (b := 1) (by omega) (by omega)).mp c224) (by omega))
          refine lv_aload_n hx hb d_M_order_145 rfl (lv_at hl 1 rfl) ?_
          refine lv_aload_n hx hb d_M_order_146 rfl (lv_at hl 1 rfl) ?_
          refine lv_iload_n hx hb d_M_order_147 rfl (lv_at hl 3 rfl) ?_
          refine z_callR (va_runV (C := "ValueTreesModel") (As := [.int (nI a)]) (rest := [.ref (mm 0)]) ⟨hx, hb, hml, hown, hts⟩ (c_M_rank l D dT _ mm wd lf rt tc ty F sz Wk wz dg dc sh hM hF a (by omega)) ⟨callB_of 1 hts (gI gd_up gd_c q766) rfl rfl rfl (ht _ q10) (ht _ q763) hd_M_rank ⟨by show 1 + 1 ≤ d + 1 + 4; omega, by show 8 + (3 + 11) + 21 ≤ 25 * (d + 1) + 100; omega⟩, ht _ q765, ht _ qs44⟩ (z_preV hK (va_recv hK.1 hM.1 (ci := 10) (q0 := 0) rfl rfl)) rfl rfl hl.1 rfl (lv_room (Nat.le_of_ble_eq_true rfl)) d_M_order_148 ⟨Nat.zero_le _, Nat.zero_le _⟩) (fun v226 hv225 => ?_)
          have hv225 : v226 = .int 0 := hv225.trans (by rw [ga]; first | rfl | decide | simp)
          subst hv225
          refine lv_aload_n hx hb d_M_order_151 rfl (lv_at hl 1 rfl) ?_
          refine lv_iload_n hx hb d_M_order_152 rfl (lv_at hl 4 rfl) ?_
          refine z_callR (va_runV (C := "ValueTreesModel") (As := [.int (nI b)]) (rest := [.int 0, .ref (mm 0)]) ⟨hx, hb, hml, hown, hts⟩ (c_M_rank l D dT _ mm wd lf rt tc ty F sz Wk wz dg dc sh hM hF b (by omega)) ⟨callB_of 1 hts (gI gd_up gd_c q766) rfl rfl rfl (ht _ q10) (ht _ q763) hd_M_rank ⟨by show 1 + 1 ≤ d + 1 + 4; omega, by show 8 + (3 + 11) + 21 ≤ 25 * (d + 1) + 100; omega⟩, ht _ q765, ht _ qs44⟩ (z_preV hK (va_recv hK.1 hM.1 (ci := 10) (q0 := 0) rfl rfl)) rfl rfl hl.1 rfl (lv_room (Nat.le_of_ble_eq_true rfl)) d_M_order_153 ⟨Nat.zero_le _, Nat.zero_le _⟩) (fun v228 hv227 => ?_)
          have hv227 : v228 = .int 1 := hv227.trans (by rw [gb]; first | rfl | decide | simp)
          subst hv227
          refine z_callR (va_runV (C := "ValueTreesModel") (As := [.int 0, .int 1]) (rest := []) ⟨hx, hb, hml, hown, hts⟩ (c_M_sign l D dT _ (mm 0) 0 1) ⟨callB_of 2 hts (gI gd_up gd_c q747) rfl rfl rfl (ht _ q10) (ht _ q744) hd_M_sign ⟨by show 0 + 1 ≤ d + 1 + 4; omega, by show 8 + (3 + 11) + 0 ≤ 25 * (d + 1) + 100; omega⟩, ht _ q746, ht _ qs40⟩ (z_preV hK (va_recv hK.1 hM.1 (ci := 10) (q0 := 0) rfl rfl)) rfl rfl hl.1 rfl (lv_room (Nat.le_of_ble_eq_true rfl)) d_M_order_156 ⟨Nat.zero_le _, Nat.zero_le _⟩) (fun v230 hv229 => ?_)
          have hv229 : v230 = .int (-1) := hv229.trans (by first | rfl | decide | simp)
          subst hv229
          refine lv_istore (lv' := [(5, .int (-1)), (4, .int (nI (tW (tb t)))), (0, .ref (mm 0)), (1, .int (nI t)), (2, .int (nI a)), (3, .int (nI b))]) hx hb d_M_order_159 hl (by decide) rfl (fun ls hl => ?_)
          refine lv_iload hx hb d_M_order_161 (lv_at hl 0 rfl) ?_
          refine lv_if_ne (tgt := 178) hx hb d_M_order_163 (by decide) (fun _ => ?_) (fun c231 => absurd c231 (by decide))
          refine lv_iload hx hb d_M_order_178 (lv_at hl 0 rfl) ?_
          exact z_iretQ hx hb hr hlocks d_M_order_180 hS (Nat.le_refl _) (Nat.le_refl _) ⟨rfl, dg, dc, sh, hM⟩
      · rcases w_or hcw hwd with ⟨y, rfl, hyy⟩ | ⟨y, rfl, hyy⟩
        · rw [f_sub] at hfv hfw
          rw [l_sub] at hav haw
          have ga : F (a + 1) = 8 := hfv.2.1
          have gb : F (b + 1) = 5 := hfw.2.1
          refine lv_aload_n hx hb d_M_order_0 rfl (lv_at hl 0 rfl) ?_
          refine va_get (D := D) (ci := 10) (v := .ref (mm 1)) (C := "ValueTreesModel") (T := T_M) (N := 12) hx hb ht in_M hown hK.1 hM.1 0 rfl rfl 0 (by decide) (ht _ q539) (fun _ h9 => h9) rfl d_M_order_1 ?_
          refine lv_iload_n hx hb d_M_order_4 rfl (lv_at hl 1 rfl) ?_
          refine z_iald hx hb hK (hM.1 1 _ rfl) t rfl (by omega) (by decide) d_M_order_5 ?_
          rw [e1]
          refine lv_istore (lv' := [(4, .int (nI (tW (tb t)))), (0, .ref (mm 0)), (1, .int (nI t)), (2, .int (nI a)), (3, .int (nI b))]) hx hb d_M_order_6 hl (by decide) rfl (fun ls hl => ?_)
          refine lv_iload hx hb d_M_order_8 (lv_at hl 0 rfl) ?_
          refine z_callR (va_runS (As := [.int (nI (tW (tb t)))]) (rest := []) ⟨hx, hb, hml, hown, hts⟩ (c_M_isNumber l D dT _ (nI (tW (tb t)))) ⟨callB_of 1 hts (gI gd_up gd_c q622) rfl rfl rfl (ht _ q10) (ht _ q620) hd_M_isNumber ⟨by show 0 + 1 ≤ d + 1 + 4; omega, by show 8 + (1 + 11) + 0 ≤ 25 * (d + 1) + 100; omega⟩, ht _ q621⟩ (z_preS hK) rfl rfl hl.1 rfl (lv_room (Nat.le_of_ble_eq_true rfl)) d_M_order_10 ⟨Nat.zero_le _, Nat.zero_le _⟩) (fun v233 hv232 => ?_)
          have hv232 : v233 = .int (if isNum (nI (tW (tb t))) then 1 else 0) := hv232
          rw [if_neg (fun h9 => absurd ((isNum_nI (by omega)).mp h9) (by omega))] at hv232
          subst hv232
          refine lv_if_eq (tgt := 23) hx hb d_M_order_13 (by decide) (fun _ => ?_) (fun c235 => absurd c235 (by decide))
          refine lv_iload hx hb d_M_order_23 (lv_at hl 0 rfl) ?_
          refine z_callR (va_runS (As := [.int (nI (tW (tb t)))]) (rest := []) ⟨hx, hb, hml, hown, hts⟩ (c_M_isRow l D dT _ (nI (tW (tb t)))) ⟨callB_of 1 hts (gI gd_up gd_c q750) rfl rfl rfl (ht _ q10) (ht _ q748) hd_M_isRow ⟨by show 0 + 1 ≤ d + 1 + 4; omega, by show 8 + (1 + 11) + 0 ≤ 25 * (d + 1) + 100; omega⟩, ht _ q749⟩ (z_preS hK) rfl rfl hl.1 rfl (lv_room (Nat.le_of_ble_eq_true rfl)) d_M_order_25 ⟨Nat.zero_le _, Nat.zero_le _⟩) (fun v237 hv236 => ?_)
          have hv236 : v237 = .int (if isRw (nI (tW (tb t))) then 1 else 0) := hv236
          rw [if_neg (fun h9 => absurd ((isRw_nI (by omega)).mp h9) (by omega))] at hv236
          subst hv236
          refine lv_if_eq (tgt := 38) hx hb d_M_order_28 (by decide) (fun _ => ?_) (fun c239 => absurd c239 (by decide))
          refine lv_iload hx hb d_M_order_38 (lv_at hl 0 rfl) ?_
          refine lv_bipush (v := 18) hx hb d_M_order_40 (by decide) ?_
          refine lv_icmp_ne (tgt := 110) hx hb d_M_order_42 (by decide) (fun c240 => ?_) (fun c240 => absurd ((nI_eq (a := (tW (tb t))) (b := 18) (by omega) (by omega)).mp c240) (by omega))
          refine lv_iload hx hb d_M_order_110 (lv_at hl 0 rfl) ?_
          refine lv_if_eq (tgt := 121) hx hb d_M_order_112 (by decide) (fun c241 => absurd ((nI_eq (a := (tW (tb t))) (b := 0) (by omega) (by omega)).mp c241) (by omega)) (fun c241 => ?_)
          refine lv_iload hx hb d_M_order_115 (lv_at hl 0 rfl) ?_
          refine lv_iconst (v := 1) hx hb d_M_order_117 (by decide) ?_
          refine lv_icmp_ne (tgt := 145) hx hb d_M_order_118 (by decide) (fun c242 => ?_) (fun c242 => absurd ((nI_eq (a := (tW (tb t))) (b := 1) (by omega) (by omega)).mp c242) (by omega))
          refine lv_aload_n hx hb d_M_order_145 rfl (lv_at hl 1 rfl) ?_
          refine lv_aload_n hx hb d_M_order_146 rfl (lv_at hl 1 rfl) ?_
          refine lv_iload_n hx hb d_M_order_147 rfl (lv_at hl 3 rfl) ?_
          refine z_callR (va_runV (C := "ValueTreesModel") (As := [.int (nI a)]) (rest := [.ref (mm 0)]) ⟨hx, hb, hml, hown, hts⟩ (c_M_rank l D dT _ mm wd lf rt tc ty F sz Wk wz dg dc sh hM hF a (by omega)) ⟨callB_of 1 hts (gI gd_up gd_c q766) rfl rfl rfl (ht _ q10) (ht _ q763) hd_M_rank ⟨by show 1 + 1 ≤ d + 1 + 4; omega, by show 8 + (3 + 11) + 21 ≤ 25 * (d + 1) + 100; omega⟩, ht _ q765, ht _ qs44⟩ (z_preV hK (va_recv hK.1 hM.1 (ci := 10) (q0 := 0) rfl rfl)) rfl rfl hl.1 rfl (lv_room (Nat.le_of_ble_eq_true rfl)) d_M_order_148 ⟨Nat.zero_le _, Nat.zero_le _⟩) (fun v244 hv243 => ?_)
          have hv243 : v244 = .int 1 := hv243.trans (by rw [ga]; first | rfl | decide | simp)
          subst hv243
          refine lv_aload_n hx hb d_M_order_151 rfl (lv_at hl 1 rfl) ?_
          refine lv_iload_n hx hb d_M_order_152 rfl (lv_at hl 4 rfl) ?_
          refine z_callR (va_runV (C := "ValueTreesModel") (As := [.int (nI b)]) (rest := [.int 1, .ref (mm 0)]) ⟨hx, hb, hml, hown, hts⟩ (c_M_rank l D dT _ mm wd lf rt tc ty F sz Wk wz dg dc sh hM hF b (by omega)) ⟨callB_of 1 hts (gI gd_up gd_c q766) rfl rfl rfl (ht _ q10) (ht _ q763) hd_M_rank ⟨by show 1 + 1 ≤ d + 1 + 4; omega, by show 8 + (3 + 11) + 21 ≤ 25 * (d + 1) + 100; omega⟩, ht _ q765, ht _ qs44⟩ (z_preV hK (va_recv hK.1 hM.1 (ci := 10) (q0 := 0) rfl rfl)) rfl rfl hl.1 rfl (lv_room (Nat.le_of_ble_eq_true rfl)) d_M_order_153 ⟨Nat.zero_le _, Nat.zero_le _⟩) (fun v246 hv245 => ?_)
          have hv245 : v246 = .int 0 := hv245.trans (by rw [gb]; first | rfl | decide | simp)
          subst hv245
          refine z_callR (va_runV (C := "ValueTreesModel") (As := [.int 1, .int 0]) (rest := []) ⟨hx, hb, hml, hown, hts⟩ (c_M_sign l D dT _ (mm 0) 1 0) ⟨callB_of 2 hts (gI gd_up gd_c q747) rfl rfl rfl (ht _ q10) (ht _ q744) hd_M_sign ⟨by show 0 + 1 ≤ d + 1 + 4; omega, by show 8 + (3 + 11) + 0 ≤ 25 * (d + 1) + 100; omega⟩, ht _ q746, ht _ qs40⟩ (z_preV hK (va_recv hK.1 hM.1 (ci := 10) (q0 := 0) rfl rfl)) rfl rfl hl.1 rfl (lv_room (Nat.le_of_ble_eq_true rfl)) d_M_order_156 ⟨Nat.zero_le _, Nat.zero_le _⟩) (fun v248 hv247 => ?_)
          have hv247 : v248 = .int 1 := hv247.trans (by first | rfl | decide | simp)
          subst hv247
          refine lv_istore (lv' := [(5, .int 1), (4, .int (nI (tW (tb t)))), (0, .ref (mm 0)), (1, .int (nI t)), (2, .int (nI a)), (3, .int (nI b))]) hx hb d_M_order_159 hl (by decide) rfl (fun ls hl => ?_)
          refine lv_iload hx hb d_M_order_161 (lv_at hl 0 rfl) ?_
          refine lv_if_ne (tgt := 178) hx hb d_M_order_163 (by decide) (fun _ => ?_) (fun c249 => absurd c249 (by decide))
          refine lv_iload hx hb d_M_order_178 (lv_at hl 0 rfl) ?_
          exact z_iretQ hx hb hr hlocks d_M_order_180 hS (Nat.le_refl _) (Nat.le_refl _) ⟨rfl, dg, dc, sh, hM⟩
        · rw [f_sub] at hfv hfw
          rw [l_sub] at hav haw
          have ga : F (a + 1) = 8 := hfv.2.1
          have gb : F (b + 1) = 8 := hfw.2.1
          refine lv_aload_n hx hb d_M_order_0 rfl (lv_at hl 0 rfl) ?_
          refine va_get (D := D) (ci := 10) (v := .ref (mm 1)) (C := "ValueTreesModel") (T := T_M) (N := 12) hx hb ht in_M hown hK.1 hM.1 0 rfl rfl 0 (by decide) (ht _ q539) (fun _ h9 => h9) rfl d_M_order_1 ?_
          refine lv_iload_n hx hb d_M_order_4 rfl (lv_at hl 1 rfl) ?_
          refine z_iald hx hb hK (hM.1 1 _ rfl) t rfl (by omega) (by decide) d_M_order_5 ?_
          rw [e1]
          refine lv_istore (lv' := [(4, .int (nI (tW (tb t)))), (0, .ref (mm 0)), (1, .int (nI t)), (2, .int (nI a)), (3, .int (nI b))]) hx hb d_M_order_6 hl (by decide) rfl (fun ls hl => ?_)
          refine lv_iload hx hb d_M_order_8 (lv_at hl 0 rfl) ?_
          refine z_callR (va_runS (As := [.int (nI (tW (tb t)))]) (rest := []) ⟨hx, hb, hml, hown, hts⟩ (c_M_isNumber l D dT _ (nI (tW (tb t)))) ⟨callB_of 1 hts (gI gd_up gd_c q622) rfl rfl rfl (ht _ q10) (ht _ q620) hd_M_isNumber ⟨by show 0 + 1 ≤ d + 1 + 4; omega, by show 8 + (1 + 11) + 0 ≤ 25 * (d + 1) + 100; omega⟩, ht _ q621⟩ (z_preS hK) rfl rfl hl.1 rfl (lv_room (Nat.le_of_ble_eq_true rfl)) d_M_order_10 ⟨Nat.zero_le _, Nat.zero_le _⟩) (fun v251 hv250 => ?_)
          have hv250 : v251 = .int (if isNum (nI (tW (tb t))) then 1 else 0) := hv250
          rw [if_neg (fun h9 => absurd ((isNum_nI (by omega)).mp h9) (by omega))] at hv250
          subst hv250
          refine lv_if_eq (tgt := 23) hx hb d_M_order_13 (by decide) (fun _ => ?_) (fun c253 => absurd c253 (by decide))
          refine lv_iload hx hb d_M_order_23 (lv_at hl 0 rfl) ?_
          refine z_callR (va_runS (As := [.int (nI (tW (tb t)))]) (rest := []) ⟨hx, hb, hml, hown, hts⟩ (c_M_isRow l D dT _ (nI (tW (tb t)))) ⟨callB_of 1 hts (gI gd_up gd_c q750) rfl rfl rfl (ht _ q10) (ht _ q748) hd_M_isRow ⟨by show 0 + 1 ≤ d + 1 + 4; omega, by show 8 + (1 + 11) + 0 ≤ 25 * (d + 1) + 100; omega⟩, ht _ q749⟩ (z_preS hK) rfl rfl hl.1 rfl (lv_room (Nat.le_of_ble_eq_true rfl)) d_M_order_25 ⟨Nat.zero_le _, Nat.zero_le _⟩) (fun v255 hv254 => ?_)
          have hv254 : v255 = .int (if isRw (nI (tW (tb t))) then 1 else 0) := hv254
          rw [if_neg (fun h9 => absurd ((isRw_nI (by omega)).mp h9) (by omega))] at hv254
          subst hv254
          refine lv_if_eq (tgt := 38) hx hb d_M_order_28 (by decide) (fun _ => ?_) (fun c257 => absurd c257 (by decide))
          refine lv_iload hx hb d_M_order_38 (lv_at hl 0 rfl) ?_
          refine lv_bipush (v := 18) hx hb d_M_order_40 (by decide) ?_
          refine lv_icmp_ne (tgt := 110) hx hb d_M_order_42 (by decide) (fun c258 => ?_) (fun c258 => absurd ((nI_eq (a := (tW (tb t))) (b := 18) (by omega) (by omega)).mp c258) (by omega))
          refine lv_iload hx hb d_M_order_110 (lv_at hl 0 rfl) ?_
          refine lv_if_eq (tgt := 121) hx hb d_M_order_112 (by decide) (fun c259 => absurd ((nI_eq (a := (tW (tb t))) (b := 0) (by omega) (by omega)).mp c259) (by omega)) (fun c259 => ?_)
          refine lv_iload hx hb d_M_order_115 (lv_at hl 0 rfl) ?_
          refine lv_iconst (v := 1) hx hb d_M_order_117 (by decide) ?_
          refine lv_icmp_ne (tgt := 145) hx hb d_M_order_118 (by decide) (fun c260 => ?_) (fun c260 => absurd ((nI_eq (a := (tW (tb t))) (b := 1) (by omega) (by omega)).mp c260) (by omega))
          refine lv_aload_n hx hb d_M_order_145 rfl (lv_at hl 1 rfl) ?_
          refine lv_aload_n hx hb d_M_order_146 rfl (lv_at hl 1 rfl) ?_
          refine lv_iload_n hx hb d_M_order_147 rfl (lv_at hl 3 rfl) ?_
          refine z_callR (va_runV (C := "ValueTreesModel") (As := [.int (nI a)]) (rest := [.ref (mm 0)]) ⟨hx, hb, hml, hown, hts⟩ (c_M_rank l D dT _ mm wd lf rt tc ty F sz Wk wz dg dc sh hM hF a (by omega)) ⟨callB_of 1 hts (gI gd_up gd_c q766) rfl rfl rfl (ht _ q10) (ht _ q763) hd_M_rank ⟨by show 1 + 1 ≤ d + 1 + 4; omega, by show 8 + (3 + 11) + 21 ≤ 25 * (d + 1) + 100; omega⟩, ht _ q765, ht _ qs44⟩ (z_preV hK (va_recv hK.1 hM.1 (ci := 10) (q0 := 0) rfl rfl)) rfl rfl hl.1 rfl (lv_room (Nat.le_of_ble_eq_true rfl)) d_M_order_148 ⟨Nat.zero_le _, Nat.zero_le _⟩) (fun v262 hv261 => ?_)
          have hv261 : v262 = .int 1 := hv261.trans (by rw [ga]; first | rfl | decide | simp)
          subst hv261
          refine lv_aload_n hx hb d_M_order_151 rfl (lv_at hl 1 rfl) ?_
          refine lv_iload_n hx hb d_M_order_152 rfl (lv_at hl 4 rfl) ?_
          refine z_callR (va_runV (C := "ValueTreesModel") (As := [.int (nI b)]) (rest := [.int 1, .ref (mm 0)]) ⟨hx, hb, hml, hown, hts⟩ (c_M_rank l D dT _ mm wd lf rt tc ty F sz Wk wz dg dc sh hM hF b (by omega)) ⟨callB_of 1 hts (gI gd_up gd_c q766) rfl rfl rfl (ht _ q10) (ht _ q763) hd_M_rank ⟨by show 1 + 1 ≤ d + 1 + 4; omega, by show 8 + (3 + 11) + 21 ≤ 25 * (d + 1) + 100; omega⟩, ht _ q765, ht _ qs44⟩ (z_preV hK (va_recv hK.1 hM.1 (ci := 10) (q0 := 0) rfl rfl)) rfl rfl hl.1 rfl (lv_room (Nat.le_of_ble_eq_true rfl)) d_M_order_153 ⟨Nat.zero_le _, Nat.zero_le _⟩) (fun v264 hv263 => ?_)
          have hv263 : v264 = .int 1 := hv263.trans (by rw [gb]; first | rfl | decide | simp)
          subst hv263
          refine z_callR (va_runV (C := "ValueTreesModel") (As := [.int 1, .int 1]) (rest := []) ⟨hx, hb, hml, hown, hts⟩ (c_M_sign l D dT _ (mm 0) 1 1) ⟨callB_of 2 hts (gI gd_up gd_c q747) rfl rfl rfl (ht _ q10) (ht _ q744) hd_M_sign ⟨by show 0 + 1 ≤ d + 1 + 4; omega, by show 8 + (3 + 11) + 0 ≤ 25 * (d + 1) + 100; omega⟩, ht _ q746, ht _ qs40⟩ (z_preV hK (va_recv hK.1 hM.1 (ci := 10) (q0 := 0) rfl rfl)) rfl rfl hl.1 rfl (lv_room (Nat.le_of_ble_eq_true rfl)) d_M_order_156 ⟨Nat.zero_le _, Nat.zero_le _⟩) (fun v266 hv265 => ?_)
          have hv265 : v266 = .int 0 := hv265.trans (by first | rfl | decide | simp)
          subst hv265
          refine lv_istore (lv' := [(5, .int 0), (4, .int (nI (tW (tb t)))), (0, .ref (mm 0)), (1, .int (nI t)), (2, .int (nI a)), (3, .int (nI b))]) hx hb d_M_order_159 hl (by decide) rfl (fun ls hl => ?_)
          refine lv_iload hx hb d_M_order_161 (lv_at hl 0 rfl) ?_
          refine lv_if_ne (tgt := 178) hx hb d_M_order_163 (by decide) (fun c267 => absurd c267 (by decide)) (fun _ => ?_)
          refine lv_aload_n hx hb d_M_order_166 rfl (lv_at hl 2 rfl) ?_
          refine lv_iload_n hx hb d_M_order_167 rfl (lv_at hl 4 rfl) ?_
          refine lv_iconst (v := 1) hx hb d_M_order_168 (by decide) ?_
          refine lv_iadd hx hb d_M_order_169 ?_
          rw [show (((nI a) + 1) : Int32) = nI (a + 1) from nI_add a 1]
          refine z_callR (va_runV (C := "ValueTreesModel") (As := [.int (nI (a + 1))]) (rest := []) ⟨hx, hb, hml, hown, hts⟩ (c_M_byteOf l D dT _ mm wd lf rt tc ty F sz Wk wz dg dc sh hM (a + 1) (by omega) (hF _)) ⟨callB_of 1 hts (gI gd_up gd_c q670) rfl rfl rfl (ht _ q10) (ht _ q667) hd_M_byteOf ⟨by show 0 + 1 ≤ d + 1 + 4; omega, by show 8 + (2 + 11) + 0 ≤ 25 * (d + 1) + 100; omega⟩, ht _ q669, ht _ qs29⟩ (z_preV hK (va_recv hK.1 hM.1 (ci := 10) (q0 := 0) rfl rfl)) rfl rfl hl.1 rfl (lv_room (Nat.le_of_ble_eq_true rfl)) d_M_order_170 ⟨Nat.zero_le _, Nat.zero_le _⟩) (fun v269 hv268 => ?_)
          subst hv268
          rw [ga]
          refine lv_bipush (v := 6) hx hb d_M_order_173 (by decide) ?_
          refine lv_icmp_ne (tgt := 181) hx hb d_M_order_175 (by decide) (fun c270 => ?_) (fun c270 => absurd ((nI_eq (a := 8) (b := 6) (by omega) (by omega)).mp c270) (by omega))
          refine lv_aload_n hx hb d_M_order_181 rfl (lv_at hl 2 rfl) ?_
          refine lv_iload hx hb d_M_order_182 (lv_at hl 1 rfl) ?_
          refine lv_bipush (v := 14) hx hb d_M_order_184 (by decide) ?_
          refine lv_icmp_ne (tgt := 207) hx hb d_M_order_186 (by decide) (fun c271 => absurd ((nI_eq (a := (tW (tb t))) (b := 14) (by omega) (by omega)).mpr (by omega)) c271) (fun c271 => ?_)
          refine lv_aload_n hx hb d_M_order_189 rfl (lv_at hl 2 rfl) ?_
          refine lv_iload_n hx hb d_M_order_190 rfl (lv_at hl 4 rfl) ?_
          refine z_callR (va_runV (C := "ValueTreesModel") (As := [.int (nI a)]) (rest := [.ref (mm 0)]) ⟨hx, hb, hml, hown, hts⟩ (c_M_rank l D dT _ mm wd lf rt tc ty F sz Wk wz dg dc sh hM hF a (by omega)) ⟨callB_of 1 hts (gI gd_up gd_c q766) rfl rfl rfl (ht _ q10) (ht _ q763) hd_M_rank ⟨by show 1 + 1 ≤ d + 1 + 4; omega, by show 8 + (3 + 11) + 21 ≤ 25 * (d + 1) + 100; omega⟩, ht _ q765, ht _ qs44⟩ (z_preV hK (va_recv hK.1 hM.1 (ci := 10) (q0 := 0) rfl rfl)) rfl rfl hl.1 rfl (lv_room (Nat.le_of_ble_eq_true rfl)) d_M_order_191 ⟨Nat.zero_le _, Nat.zero_le _⟩) (fun v273 hv272 => ?_)
          have hv272 : v273 = .int 1 := hv272.trans (by rw [ga]; first | rfl | decide | simp)
          subst hv272
          refine lv_iconst (v := 1) hx hb d_M_order_194 (by decide) ?_
          refine lv_icmp_ne (tgt := 207) hx hb d_M_order_195 (by decide) (fun c274 => absurd c274 (by decide)) (fun _ => ?_)
          refine lv_aload_n hx hb d_M_order_198 rfl (lv_at hl 2 rfl) ?_
          refine va_get (D := D) (ci := 10) (v := .ref (mm 3)) (C := "ValueTreesModel") (T := T_M) (N := 12) hx hb ht in_M hown hK.1 hM.1 0 rfl rfl 2 (by decide) (ht _ q541) (fun _ h9 => h9) rfl d_M_order_199 ?_
          refine lv_iload_n hx hb d_M_order_202 rfl (lv_at hl 3 rfl) ?_
          refine z_iald hx hb hK (hM.1 3 _ rfl) t rfl (by omega) (by decide) d_M_order_203 ?_
          rw [e3]
          refine lv_goto (tgt := 213) hx hb d_M_order_204 (by decide) ?_
          refine lv_iload_n hx hb d_M_order_213 rfl (lv_at hl 4 rfl) ?_
          refine lv_iconst (v := 2) hx hb d_M_order_214 (by decide) ?_
          refine lv_iadd hx hb d_M_order_215 ?_
          rw [show (((nI a) + 2) : Int32) = nI (a + 2) from nI_add a 2]
          refine lv_iload_n hx hb d_M_order_216 rfl (lv_at hl 5 rfl) ?_
          refine lv_iconst (v := 2) hx hb d_M_order_217 (by decide) ?_
          refine lv_iadd hx hb d_M_order_218 ?_
          rw [show (((nI b) + 2) : Int32) = nI (b + 2) from nI_add b 2]
          refine z_callQ (va_runV (C := "ValueTreesModel") (As := [.int (nI (rt_ tb t)), .int (nI (a + 2)), .int (nI (b + 2))]) (rest := []) ⟨hx, hb, hml, hown, hts⟩ (ih _ dg dc sh (rt_ tb t) x y (a + 2) (b + 2) hM (by omega) (by omega) hcr hxx hyy hfv.2.2 hfw.2.2 (by omega) (by omega)) ⟨callB_of 3 hts (gI gd_up gd_c q739) rfl rfl rfl (ht _ q10) (ht _ q736) hd_M_order ⟨by show d + 4 + 1 ≤ d + 1 + 4; omega, by show 8 + (6 + 11) + 25 * d + 100 ≤ 25 * (d + 1) + 100; omega⟩, ht _ q738, ht _ qs38⟩ (z_preV hK (va_recv hK.1 hM.1 (ci := 10) (q0 := 0) rfl rfl)) rfl rfl hl.1 rfl (lv_room (Nat.le_of_ble_eq_true rfl)) d_M_order_219 ⟨Nat.le_refl _, Nat.le_refl _⟩) hS (fun _ h9 => h9) (fun v276 H locs hv275 hz277 hf278 hS => ?_)
          obtain ⟨rfl, dg, dc, sh, hM⟩ := hv275
          refine W.eq (g2 := F0 m 222 ls [.int (vo x y)]) rfl ?_
          exact z_iretQ hx hb hr hlocks d_M_order_222 hS (Nat.le_refl _) (Nat.le_refl _) ⟨rfl, dg, dc, sh, hM⟩
    · obtain ⟨hL, hlt, hlp⟩ := tl_some hO htl (by omega)
      rw [hL] at e2
      have e2 : lf t = nI (lt_ tb t) := e2
      obtain ⟨hRr, hrt, hrp⟩ := tr_some hO htl (by omega)
      rw [hRr] at e3
      have e3 : rt t = nI (rt_ tb t) := e3
      obtain ⟨x, x2, rfl, hxx, hxx2⟩ := w_pair hcv hwd
      obtain ⟨y, y2, rfl, hyy, hyy2⟩ := w_pair hcw hwd
      rw [f_add] at hfv hfw
      rw [l_add] at hav haw
      obtain ⟨-, -, hfx, hfx2⟩ := hfv
      obtain ⟨-, -, hfy, hfy2⟩ := hfw
      refine lv_aload_n hx hb d_M_order_0 rfl (lv_at hl 0 rfl) ?_
      refine va_get (D := D) (ci := 10) (v := .ref (mm 1)) (C := "ValueTreesModel") (T := T_M) (N := 12) hx hb ht in_M hown hK.1 hM.1 0 rfl rfl 0 (by decide) (ht _ q539) (fun _ h9 => h9) rfl d_M_order_1 ?_
      refine lv_iload_n hx hb d_M_order_4 rfl (lv_at hl 1 rfl) ?_
      refine z_iald hx hb hK (hM.1 1 _ rfl) t rfl (by omega) (by decide) d_M_order_5 ?_
      rw [e1]
      refine lv_istore (lv' := [(4, .int (nI (tW (tb t)))), (0, .ref (mm 0)), (1, .int (nI t)), (2, .int (nI a)), (3, .int (nI b))]) hx hb d_M_order_6 hl (by decide) rfl (fun ls hl => ?_)
      refine lv_iload hx hb d_M_order_8 (lv_at hl 0 rfl) ?_
      refine z_callR (va_runS (As := [.int (nI (tW (tb t)))]) (rest := []) ⟨hx, hb, hml, hown, hts⟩ (c_M_isNumber l D dT _ (nI (tW (tb t)))) ⟨callB_of 1 hts (gI gd_up gd_c q622) rfl rfl rfl (ht _ q10) (ht _ q620) hd_M_isNumber ⟨by show 0 + 1 ≤ d + 1 + 4; omega, by show 8 + (1 + 11) + 0 ≤ 25 * (d + 1) + 100; omega⟩, ht _ q621⟩ (z_preS hK) rfl rfl hl.1 rfl (lv_room (Nat.le_of_ble_eq_true rfl)) d_M_order_10 ⟨Nat.zero_le _, Nat.zero_le _⟩) (fun v280 hv279 => ?_)
      have hv279 : v280 = .int (if isNum (nI (tW (tb t))) then 1 else 0) := hv279
      rw [if_neg (fun h9 => absurd ((isNum_nI (by omega)).mp h9) (by omega))] at hv279
      subst hv279
      refine lv_if_eq (tgt := 23) hx hb d_M_order_13 (by decide) (fun _ => ?_) (fun c282 => absurd c282 (by decide))
      refine lv_iload hx hb d_M_order_23 (lv_at hl 0 rfl) ?_
      refine z_callR (va_runS (As := [.int (nI (tW (tb t)))]) (rest := []) ⟨hx, hb, hml, hown, hts⟩ (c_M_isRow l D dT _ (nI (tW (tb t)))) ⟨callB_of 1 hts (gI gd_up gd_c q750) rfl rfl rfl (ht _ q10) (ht _ q748) hd_M_isRow ⟨by show 0 + 1 ≤ d + 1 + 4; omega, by show 8 + (1 + 11) + 0 ≤ 25 * (d + 1) + 100; omega⟩, ht _ q749⟩ (z_preS hK) rfl rfl hl.1 rfl (lv_room (Nat.le_of_ble_eq_true rfl)) d_M_order_25 ⟨Nat.zero_le _, Nat.zero_le _⟩) (fun v284 hv283 => ?_)
      have hv283 : v284 = .int (if isRw (nI (tW (tb t))) then 1 else 0) := hv283
      rw [if_neg (fun h9 => absurd ((isRw_nI (by omega)).mp h9) (by omega))] at hv283
      subst hv283
      refine lv_if_eq (tgt := 38) hx hb d_M_order_28 (by decide) (fun _ => ?_) (fun c286 => absurd c286 (by decide))
      refine lv_iload hx hb d_M_order_38 (lv_at hl 0 rfl) ?_
      refine lv_bipush (v := 18) hx hb d_M_order_40 (by decide) ?_
      refine lv_icmp_ne (tgt := 110) hx hb d_M_order_42 (by decide) (fun c287 => absurd ((nI_eq (a := (tW (tb t))) (b := 18) (by omega) (by omega)).mpr (by omega)) c287) (fun c287 => ?_)
      refine lv_aload_n hx hb d_M_order_45 rfl (lv_at hl 1 rfl) ?_
      refine lv_aload_n hx hb d_M_order_46 rfl (lv_at hl 1 rfl) ?_
      refine va_get (D := D) (ci := 10) (v := .ref (mm 2)) (C := "ValueTreesModel") (T := T_M) (N := 12) hx hb ht in_M hown hK.1 hM.1 0 rfl rfl 1 (by decide) (ht _ q540) (fun _ h9 => h9) rfl d_M_order_47 ?_
      refine lv_iload_n hx hb d_M_order_50 rfl (lv_at hl 2 rfl) ?_
      refine z_iald hx hb hK (hM.1 2 _ rfl) t rfl (by omega) (by decide) d_M_order_51 ?_
      rw [e2]
      refine lv_iload_n hx hb d_M_order_52 rfl (lv_at hl 3 rfl) ?_
      refine lv_iconst (v := 2) hx hb d_M_order_53 (by decide) ?_
      refine lv_iadd hx hb d_M_order_54 ?_
      rw [show (((nI a) + 2) : Int32) = nI (a + 2) from nI_add a 2]
      refine lv_iload_n hx hb d_M_order_55 rfl (lv_at hl 4 rfl) ?_
      refine lv_iconst (v := 2) hx hb d_M_order_56 (by decide) ?_
      refine lv_iadd hx hb d_M_order_57 ?_
      rw [show (((nI b) + 2) : Int32) = nI (b + 2) from nI_add b 2]
      refine z_callQ (va_runV (C := "ValueTreesModel") (As := [.int (nI (lt_ tb t)), .int (nI (a + 2)), .int (nI (b + 2))]) (rest := []) ⟨hx, hb, hml, hown, hts⟩ (ih _ dg dc sh (lt_ tb t) x y (a + 2) (b + 2) hM (by omega) (by omega) hcl hxx hyy hfx hfy (by omega) (by omega)) ⟨callB_of 3 hts (gI gd_up gd_c q739) rfl rfl rfl (ht _ q10) (ht _ q736) hd_M_order ⟨by show d + 4 + 1 ≤ d + 1 + 4; omega, by show 8 + (6 + 11) + 25 * d + 100 ≤ 25 * (d + 1) + 100; omega⟩, ht _ q738, ht _ qs38⟩ (z_preV hK (va_recv hK.1 hM.1 (ci := 10) (q0 := 0) rfl rfl)) rfl rfl hl.1 rfl (lv_room (Nat.le_of_ble_eq_true rfl)) d_M_order_58 ⟨Nat.le_refl _, Nat.le_refl _⟩) hS (fun _ h9 => h9) (fun v289 H locs hv288 hz290 hf291 hS => ?_)
      obtain ⟨rfl, dg, dc, sh, hM⟩ := hv288
      refine W.eq (g2 := F0 m 61 ls [.int (vo x y)]) rfl ?_
      refine lv_istore (lv' := [(5, .int (vo x y)), (4, .int (nI (tW (tb t)))), (0, .ref (mm 0)), (1, .int (nI t)), (2, .int (nI a)), (3, .int (nI b))]) hx hb d_M_order_61 hl (by decide) rfl (fun ls hl => ?_)
      refine lv_iload hx hb d_M_order_63 (lv_at hl 0 rfl) ?_
      refine lv_if_eq (tgt := 73) hx hb d_M_order_65 (by decide) (fun c292 => ?_) (fun c292 => ?_)
      · refine lv_aload_n hx hb d_M_order_73 rfl (lv_at hl 2 rfl) ?_
        refine lv_aload_n hx hb d_M_order_74 rfl (lv_at hl 2 rfl) ?_
        refine va_get (D := D) (ci := 10) (v := .ref (mm 3)) (C := "ValueTreesModel") (T := T_M) (N := 12) hx hb ht in_M hown hK.1 hM.1 0 rfl rfl 2 (by decide) (ht _ q541) (fun _ h9 => h9) rfl d_M_order_75 ?_
        refine lv_iload_n hx hb d_M_order_78 rfl (lv_at hl 3 rfl) ?_
        refine z_iald hx hb hK (hM.1 3 _ rfl) t rfl (by omega) (by decide) d_M_order_79 ?_
        rw [e3]
        refine lv_aload_n hx hb d_M_order_80 rfl (lv_at hl 2 rfl) ?_
        refine lv_aload_n hx hb d_M_order_81 rfl (lv_at hl 2 rfl) ?_
        refine va_get (D := D) (ci := 10) (v := .ref (mm 2)) (C := "ValueTreesModel") (T := T_M) (N := 12) hx hb ht in_M hown hK.1 hM.1 0 rfl rfl 1 (by decide) (ht _ q540) (fun _ h9 => h9) rfl d_M_order_82 ?_
        refine lv_iload_n hx hb d_M_order_85 rfl (lv_at hl 3 rfl) ?_
        refine z_iald hx hb hK (hM.1 2 _ rfl) t rfl (by omega) (by decide) d_M_order_86 ?_
        rw [e2]
        refine lv_iload_n hx hb d_M_order_87 rfl (lv_at hl 4 rfl) ?_
        refine lv_iconst (v := 2) hx hb d_M_order_88 (by decide) ?_
        refine lv_iadd hx hb d_M_order_89 ?_
        rw [show (((nI a) + 2) : Int32) = nI (a + 2) from nI_add a 2]
        refine z_callR (va_runV (C := "ValueTreesModel") (As := [.int (nI (lt_ tb t)), .int (nI (a + 2))]) (rest := [.int (nI (rt_ tb t)), .ref (mm 0)]) ⟨hx, hb, hml, hown, hts⟩ (c_M_end l D dT _ mm wd lf rt tc ty F sz Wk wz dg dc sh hM hF tb hO hT d (lt_ tb t) x (a + 2) (by omega) (by omega) hxx hfx (by omega)) ⟨callB_of 2 hts (gI gd_up gd_c q762) rfl rfl rfl (ht _ q10) (ht _ q759) hd_M_end ⟨by show d + 2 + 1 ≤ d + 1 + 4; omega, by show 8 + (5 + 11) + 24 * d + 42 ≤ 25 * (d + 1) + 100; omega⟩, ht _ q761, ht _ qs43⟩ (z_preV hK (va_recv hK.1 hM.1 (ci := 10) (q0 := 0) rfl rfl)) rfl rfl hl.1 rfl (lv_room (Nat.le_of_ble_eq_true rfl)) d_M_order_90 ⟨Nat.zero_le _, Nat.zero_le _⟩) (fun v294 hv293 => ?_)
        subst hv293
        refine lv_aload_n hx hb d_M_order_93 rfl (lv_at hl 2 rfl) ?_
        refine lv_aload_n hx hb d_M_order_94 rfl (lv_at hl 2 rfl) ?_
        refine va_get (D := D) (ci := 10) (v := .ref (mm 2)) (C := "ValueTreesModel") (T := T_M) (N := 12) hx hb ht in_M hown hK.1 hM.1 0 rfl rfl 1 (by decide) (ht _ q540) (fun _ h9 => h9) rfl d_M_order_95 ?_
        refine lv_iload_n hx hb d_M_order_98 rfl (lv_at hl 3 rfl) ?_
        refine z_iald hx hb hK (hM.1 2 _ rfl) t rfl (by omega) (by decide) d_M_order_99 ?_
        rw [e2]
        refine lv_iload_n hx hb d_M_order_100 rfl (lv_at hl 5 rfl) ?_
        refine lv_iconst (v := 2) hx hb d_M_order_101 (by decide) ?_
        refine lv_iadd hx hb d_M_order_102 ?_
        rw [show (((nI b) + 2) : Int32) = nI (b + 2) from nI_add b 2]
        refine z_callR (va_runV (C := "ValueTreesModel") (As := [.int (nI (lt_ tb t)), .int (nI (b + 2))]) (rest := [.int (nI (a + 2 + (cs x).length)), .int (nI (rt_ tb t)), .ref (mm 0)]) ⟨hx, hb, hml, hown, hts⟩ (c_M_end l D dT _ mm wd lf rt tc ty F sz Wk wz dg dc sh hM hF tb hO hT d (lt_ tb t) y (b + 2) (by omega) (by omega) hyy hfy (by omega)) ⟨callB_of 2 hts (gI gd_up gd_c q762) rfl rfl rfl (ht _ q10) (ht _ q759) hd_M_end ⟨by show d + 2 + 1 ≤ d + 1 + 4; omega, by show 8 + (5 + 11) + 24 * d + 42 ≤ 25 * (d + 1) + 100; omega⟩, ht _ q761, ht _ qs43⟩ (z_preV hK (va_recv hK.1 hM.1 (ci := 10) (q0 := 0) rfl rfl)) rfl rfl hl.1 rfl (lv_room (Nat.le_of_ble_eq_true rfl)) d_M_order_103 ⟨Nat.zero_le _, Nat.zero_le _⟩) (fun v296 hv295 => ?_)
        subst hv295
        refine z_callQ (va_runV (C := "ValueTreesModel") (As := [.int (nI (rt_ tb t)), .int (nI (a + 2 + (cs x).length)), .int (nI (b + 2 + (cs y).length))]) (rest := []) ⟨hx, hb, hml, hown, hts⟩ (ih _ dg dc sh (rt_ tb t) x2 y2 (a + 2 + (cs x).length) (b + 2 + (cs y).length) hM (by omega) (by omega) hcr hxx2 hyy2 hfx2 hfy2 (by omega) (by omega)) ⟨callB_of 3 hts (gI gd_up gd_c q739) rfl rfl rfl (ht _ q10) (ht _ q736) hd_M_order ⟨by show d + 4 + 1 ≤ d + 1 + 4; omega, by show 8 + (6 + 11) + 25 * d + 100 ≤ 25 * (d + 1) + 100; omega⟩, ht _ q738, ht _ qs38⟩ (z_preV hK (va_recv hK.1 hM.1 (ci := 10) (q0 := 0) rfl rfl)) rfl rfl hl.1 rfl (lv_room (Nat.le_of_ble_eq_true rfl)) d_M_order_106 ⟨Nat.le_refl _, Nat.le_refl _⟩) hS (fun _ h9 => h9) (fun v298 H locs hv297 hz299 hf300 hS => ?_)
        obtain ⟨rfl, dg, dc, sh, hM⟩ := hv297
        refine W.eq (g2 := F0 m 109 ls [.int (vo x2 y2)]) rfl ?_
        exact z_iretQ hx hb hr hlocks d_M_order_109 hS (Nat.le_refl _) (Nat.le_refl _) ⟨by show _ = some (Value.int (if vo x y = 0 then vo x2 y2 else vo x y)); rw [if_pos c292], dg, dc, sh, hM⟩
      · refine lv_iload hx hb d_M_order_68 (lv_at hl 0 rfl) ?_
        refine lv_goto (tgt := 109) hx hb d_M_order_70 (by decide) ?_
        exact z_iretQ hx hb hr hlocks d_M_order_109 hS (Nat.le_refl _) (Nat.le_refl _) ⟨by show _ = some (Value.int (if vo x y = 0 then vo x2 y2 else vo x y)); rw [if_neg c292], dg, dc, sh, hM⟩
