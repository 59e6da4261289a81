theorem ti_none {RV : Nat → Option VT} {f n : Int32} (h : rgs RV f = none) : o_times RV f n = none := by unfold o_times; rw [h]
theorem ti_w {tb : Nat → TR} {RV : Nat → Option VT} {j : Nat} {n : Int32} {v : VT} (hj : j < 16) (hV : RV j = some v) (hw : wty tb v 0 (vty v)) (h : ¬ (tW (tb (vty v)) = 2 ∨ tW (tb (vty v)) = 3 ∨ tW (tb (vty v)) = 4 ∨ tW (tb (vty v)) = 8)) : o_times RV (nI j) n = none := by
  obtain ⟨c, e, hc⟩ := wty_pow hw
  unfold o_times
  rw [rgs_nI hj, hV, e]
  cases c with
  | num z => exact absurd hc.2.1 h
  | _ => rfl
theorem ti_n {RV : Nat → Option VT} {f n : Int32} (h : n < 0 ∨ 1000 < n) : o_times RV f n = none := by
  unfold o_times
  split
  · rw [if_neg (fun q => h.elim (fun h9 => Int32.not_le.mpr h9 q.1) (fun h9 => Int32.not_le.mpr h9 q.2.1))]
  · rfl
theorem ti_ev {RV : Nat → Option VT} {j n t : Nat} {v : VT} {z : Int} (hj : j < 16) (hV : RV j = some v) (ev : v = .pow (.num z) t) (hn : n ≤ 1000) : o_times RV (nI j) (nI n) = if nb z.natAbs = 0 ∨ nb z.natAbs + n ≤ (if t = 4 then 63 else 1024) then some (.pow (.num (z * 2 ^ n)) t) else none := by
  unfold o_times
  rw [rgs_nI hj, hV, ev]
  dsimp only
  rw [nI_clamp (by omega)]
  by_cases h : nb z.natAbs = 0 ∨ nb z.natAbs + n ≤ (if t = 4 then 63 else 1024)
  · rw [if_pos h, if_pos ⟨nI_pos' (by omega), (nI_leI (b := 1000) (by omega) (by decide)).mpr hn, h⟩]
  · rw [if_neg h, if_neg (fun q => h q.2.2)]
abbrev b_M_times : ByteArray := prog_12_method_33_code
abbrev y_M_times : MethodName := ⟨"ValueTreesModel", "times", "(III)I"⟩
abbrev w_M_times : List Cond := .code y_M_times b_M_times 11 (Option.some .int) :: gt
theorem hd_M_times : (y_M_times).cls ≠ "java/lang/invoke/MethodHandle" ∧ (y_M_times).cls ≠ "java/lang/invoke/VarHandle" ∧ (parseMethodDescriptor (y_M_times).desc).map (fun d => d.parameters.length) = some 3 := by decide +kernel
theorem d_M_times_0 : decode b_M_times 0 = .ok (.iload_n 1, 1) := by decide +kernel
theorem d_M_times_1 : decode b_M_times 1 = .ok (.invokestatic 66, 3) := by decide +kernel
theorem d_M_times_4 : decode b_M_times 4 = .ok (.ifCond .eq 25, 3) := by decide +kernel
theorem d_M_times_7 : decode b_M_times 7 = .ok (.aload_n 0, 1) := by decide +kernel
theorem d_M_times_8 : decode b_M_times 8 = .ok (.iload_n 2, 1) := by decide +kernel
theorem d_M_times_9 : decode b_M_times 9 = .ok (.invokevirtual 124, 3) := by decide +kernel
theorem d_M_times_12 : decode b_M_times 12 = .ok (.invokestatic 75, 3) := by decide +kernel
theorem d_M_times_15 : decode b_M_times 15 = .ok (.ifCond .eq 14, 3) := by decide +kernel
theorem d_M_times_18 : decode b_M_times 18 = .ok (.iload_n 3, 1) := by decide +kernel
theorem d_M_times_19 : decode b_M_times 19 = .ok (.ifCond .lt 10, 3) := by decide +kernel
theorem d_M_times_22 : decode b_M_times 22 = .ok (.iload_n 3, 1) := by decide +kernel
theorem d_M_times_23 : decode b_M_times 23 = .ok (.sipush 1000, 3) := by decide +kernel
theorem d_M_times_26 : decode b_M_times 26 = .ok (.if_icmp .le 5, 3) := by decide +kernel
theorem d_M_times_29 : decode b_M_times 29 = .ok (.iconst (-1), 1) := by decide +kernel
theorem d_M_times_30 : decode b_M_times 30 = .ok (.ireturn, 1) := by decide +kernel
theorem d_M_times_31 : decode b_M_times 31 = .ok (.aload_n 0, 1) := by decide +kernel
theorem d_M_times_32 : decode b_M_times 32 = .ok (.iload_n 2, 1) := by decide +kernel
theorem d_M_times_33 : decode b_M_times 33 = .ok (.invokestatic 112, 3) := by decide +kernel
theorem d_M_times_36 : decode b_M_times 36 = .ok (.invokevirtual 127, 3) := by decide +kernel
theorem d_M_times_39 : decode b_M_times 39 = .ok (.istore 4, 2) := by decide +kernel
theorem d_M_times_41 : decode b_M_times 41 = .ok (.aload_n 0, 1) := by decide +kernel
theorem d_M_times_42 : decode b_M_times 42 = .ok (.invokevirtual 105, 3) := by decide +kernel
theorem d_M_times_45 : decode b_M_times 45 = .ok (.istore 5, 2) := by decide +kernel
theorem d_M_times_47 : decode b_M_times 47 = .ok (.iload 5, 2) := by decide +kernel
theorem d_M_times_49 : decode b_M_times 49 = .ok (.ifCond .le 29, 3) := by decide +kernel
theorem d_M_times_52 : decode b_M_times 52 = .ok (.iload 5, 2) := by decide +kernel
theorem d_M_times_54 : decode b_M_times 54 = .ok (.iload_n 3, 1) := by decide +kernel
theorem d_M_times_55 : decode b_M_times 55 = .ok (.iadd, 1) := by decide +kernel
theorem d_M_times_56 : decode b_M_times 56 = .ok (.aload_n 0, 1) := by decide +kernel
theorem d_M_times_57 : decode b_M_times 57 = .ok (.iload_n 2, 1) := by decide +kernel
theorem d_M_times_58 : decode b_M_times 58 = .ok (.invokevirtual 124, 3) := by decide +kernel
theorem d_M_times_61 : decode b_M_times 61 = .ok (.iconst 4, 1) := by decide +kernel
theorem d_M_times_62 : decode b_M_times 62 = .ok (.if_icmp .ne 8, 3) := by decide +kernel
theorem d_M_times_65 : decode b_M_times 65 = .ok (.bipush 63, 2) := by decide +kernel
theorem d_M_times_67 : decode b_M_times 67 = .ok (.goto 6, 3) := by decide +kernel
theorem d_M_times_70 : decode b_M_times 70 = .ok (.sipush 1024, 3) := by decide +kernel
theorem d_M_times_73 : decode b_M_times 73 = .ok (.if_icmp .le 5, 3) := by decide +kernel
theorem d_M_times_76 : decode b_M_times 76 = .ok (.iconst (-1), 1) := by decide +kernel
theorem d_M_times_77 : decode b_M_times 77 = .ok (.ireturn, 1) := by decide +kernel
theorem d_M_times_78 : decode b_M_times 78 = .ok (.iload_n 3, 1) := by decide +kernel
theorem d_M_times_79 : decode b_M_times 79 = .ok (.bipush 16, 2) := by decide +kernel
theorem d_M_times_81 : decode b_M_times 81 = .ok (.idiv, 1) := by decide +kernel
theorem d_M_times_82 : decode b_M_times 82 = .ok (.istore 6, 2) := by decide +kernel
theorem d_M_times_84 : decode b_M_times 84 = .ok (.iload_n 3, 1) := by decide +kernel
theorem d_M_times_85 : decode b_M_times 85 = .ok (.bipush 16, 2) := by decide +kernel
theorem d_M_times_87 : decode b_M_times 87 = .ok (.irem, 1) := by decide +kernel
theorem d_M_times_88 : decode b_M_times 88 = .ok (.istore 7, 2) := by decide +kernel
theorem d_M_times_90 : decode b_M_times 90 = .ok (.iload 5, 2) := by decide +kernel
theorem d_M_times_92 : decode b_M_times 92 = .ok (.ifCond .ne 7, 3) := by decide +kernel
theorem d_M_times_95 : decode b_M_times 95 = .ok (.iconst (-1), 1) := by decide +kernel
theorem d_M_times_96 : decode b_M_times 96 = .ok (.goto 10, 3) := by decide +kernel
theorem d_M_times_99 : decode b_M_times 99 = .ok (.aload_n 0, 1) := by decide +kernel
theorem d_M_times_100 : decode b_M_times 100 = .ok (.getfield 85, 3) := by decide +kernel
theorem d_M_times_103 : decode b_M_times 103 = .ok (.iload 6, 2) := by decide +kernel
theorem d_M_times_105 : decode b_M_times 105 = .ok (.iadd, 1) := by decide +kernel
theorem d_M_times_106 : decode b_M_times 106 = .ok (.istore 8, 2) := by decide +kernel
theorem d_M_times_108 : decode b_M_times 108 = .ok (.iload 8, 2) := by decide +kernel
theorem d_M_times_110 : decode b_M_times 110 = .ok (.ifCond .lt 79, 3) := by decide +kernel
theorem d_M_times_113 : decode b_M_times 113 = .ok (.iload 8, 2) := by decide +kernel
theorem d_M_times_115 : decode b_M_times 115 = .ok (.iload 6, 2) := by decide +kernel
theorem d_M_times_117 : decode b_M_times 117 = .ok (.if_icmp .lt 15, 3) := by decide +kernel
theorem d_M_times_120 : decode b_M_times 120 = .ok (.aload_n 0, 1) := by decide +kernel
theorem d_M_times_121 : decode b_M_times 121 = .ok (.iload 8, 2) := by decide +kernel
theorem d_M_times_123 : decode b_M_times 123 = .ok (.iload 6, 2) := by decide +kernel
theorem d_M_times_125 : decode b_M_times 125 = .ok (.isub, 1) := by decide +kernel
theorem d_M_times_126 : decode b_M_times 126 = .ok (.invokevirtual 88, 3) := by decide +kernel
theorem d_M_times_129 : decode b_M_times 129 = .ok (.goto 4, 3) := by decide +kernel
theorem d_M_times_132 : decode b_M_times 132 = .ok (.iconst 0, 1) := by decide +kernel
theorem d_M_times_133 : decode b_M_times 133 = .ok (.istore 9, 2) := by decide +kernel
theorem d_M_times_135 : decode b_M_times 135 = .ok (.iload 8, 2) := by decide +kernel
theorem d_M_times_137 : decode b_M_times 137 = .ok (.iload 6, 2) := by decide +kernel
theorem d_M_times_139 : decode b_M_times 139 = .ok (.if_icmp .le 17, 3) := by decide +kernel
theorem d_M_times_142 : decode b_M_times 142 = .ok (.aload_n 0, 1) := by decide +kernel
theorem d_M_times_143 : decode b_M_times 143 = .ok (.iload 8, 2) := by decide +kernel
theorem d_M_times_145 : decode b_M_times 145 = .ok (.iload 6, 2) := by decide +kernel
theorem d_M_times_147 : decode b_M_times 147 = .ok (.isub, 1) := by decide +kernel
theorem d_M_times_148 : decode b_M_times 148 = .ok (.iconst 1, 1) := by decide +kernel
theorem d_M_times_149 : decode b_M_times 149 = .ok (.isub, 1) := by decide +kernel
theorem d_M_times_150 : decode b_M_times 150 = .ok (.invokevirtual 88, 3) := by decide +kernel
theorem d_M_times_153 : decode b_M_times 153 = .ok (.goto 4, 3) := by decide +kernel
theorem d_M_times_156 : decode b_M_times 156 = .ok (.iconst 0, 1) := by decide +kernel
theorem d_M_times_157 : decode b_M_times 157 = .ok (.istore 10, 2) := by decide +kernel
theorem d_M_times_159 : decode b_M_times 159 = .ok (.aload_n 0, 1) := by decide +kernel
theorem d_M_times_160 : decode b_M_times 160 = .ok (.getfield 35, 3) := by decide +kernel
theorem d_M_times_163 : decode b_M_times 163 = .ok (.iload 8, 2) := by decide +kernel
theorem d_M_times_165 : decode b_M_times 165 = .ok (.iload 9, 2) := by decide +kernel
theorem d_M_times_167 : decode b_M_times 167 = .ok (.iload 7, 2) := by decide +kernel
theorem d_M_times_169 : decode b_M_times 169 = .ok (.ishl, 1) := by decide +kernel
theorem d_M_times_170 : decode b_M_times 170 = .ok (.iload 10, 2) := by decide +kernel
theorem d_M_times_172 : decode b_M_times 172 = .ok (.bipush 16, 2) := by decide +kernel
theorem d_M_times_174 : decode b_M_times 174 = .ok (.iload 7, 2) := by decide +kernel
theorem d_M_times_176 : decode b_M_times 176 = .ok (.isub, 1) := by decide +kernel
theorem d_M_times_177 : decode b_M_times 177 = .ok (.ishr, 1) := by decide +kernel
theorem d_M_times_178 : decode b_M_times 178 = .ok (.ior, 1) := by decide +kernel
theorem d_M_times_179 : decode b_M_times 179 = .ok (.ldc 130, 2) := by decide +kernel
theorem d_M_times_181 : decode b_M_times 181 = .ok (.iand, 1) := by decide +kernel
theorem d_M_times_182 : decode b_M_times 182 = .ok (.iastore, 1) := by decide +kernel
theorem d_M_times_183 : decode b_M_times 183 = .ok (.iinc 8 (-1), 3) := by decide +kernel
theorem d_M_times_186 : decode b_M_times 186 = .ok (.goto (-78), 3) := by decide +kernel
theorem d_M_times_189 : decode b_M_times 189 = .ok (.aload_n 0, 1) := by decide +kernel
theorem d_M_times_190 : decode b_M_times 190 = .ok (.iload 5, 2) := by decide +kernel
theorem d_M_times_192 : decode b_M_times 192 = .ok (.ifCond .ne 7, 3) := by decide +kernel
theorem d_M_times_195 : decode b_M_times 195 = .ok (.iconst 0, 1) := by decide +kernel
theorem d_M_times_196 : decode b_M_times 196 = .ok (.goto 12, 3) := by decide +kernel
theorem d_M_times_199 : decode b_M_times 199 = .ok (.aload_n 0, 1) := by decide +kernel
theorem d_M_times_200 : decode b_M_times 200 = .ok (.getfield 85, 3) := by decide +kernel
theorem d_M_times_203 : decode b_M_times 203 = .ok (.iload 6, 2) := by decide +kernel
theorem d_M_times_205 : decode b_M_times 205 = .ok (.iadd, 1) := by decide +kernel
theorem d_M_times_206 : decode b_M_times 206 = .ok (.iconst 1, 1) := by decide +kernel
theorem d_M_times_207 : decode b_M_times 207 = .ok (.iadd, 1) := by decide +kernel
theorem d_M_times_208 : decode b_M_times 208 = .ok (.putfield 85, 3) := by decide +kernel
theorem d_M_times_211 : decode b_M_times 211 = .ok (.iconst 0, 1) := by decide +kernel
theorem d_M_times_212 : decode b_M_times 212 = .ok (.istore 8, 2) := by decide +kernel
theorem d_M_times_214 : decode b_M_times 214 = .ok (.iload 8, 2) := by decide +kernel
theorem d_M_times_216 : decode b_M_times 216 = .ok (.aload_n 0, 1) := by decide +kernel
theorem d_M_times_217 : decode b_M_times 217 = .ok (.getfield 85, 3) := by decide +kernel
theorem d_M_times_220 : decode b_M_times 220 = .ok (.if_icmp .ge 23, 3) := by decide +kernel
theorem d_M_times_223 : decode b_M_times 223 = .ok (.aload_n 0, 1) := by decide +kernel
theorem d_M_times_224 : decode b_M_times 224 = .ok (.getfield 32, 3) := by decide +kernel
theorem d_M_times_227 : decode b_M_times 227 = .ok (.iload 8, 2) := by decide +kernel
theorem d_M_times_229 : decode b_M_times 229 = .ok (.aload_n 0, 1) := by decide +kernel
theorem d_M_times_230 : decode b_M_times 230 = .ok (.getfield 35, 3) := by decide +kernel
theorem d_M_times_233 : decode b_M_times 233 = .ok (.iload 8, 2) := by decide +kernel
theorem d_M_times_235 : decode b_M_times 235 = .ok (.iaload, 1) := by decide +kernel
theorem d_M_times_236 : decode b_M_times 236 = .ok (.iastore, 1) := by decide +kernel
theorem d_M_times_237 : decode b_M_times 237 = .ok (.iinc 8 1, 3) := by decide +kernel
theorem d_M_times_240 : decode b_M_times 240 = .ok (.goto (-26), 3) := by decide +kernel
theorem d_M_times_243 : decode b_M_times 243 = .ok (.aload_n 0, 1) := by decide +kernel
theorem d_M_times_244 : decode b_M_times 244 = .ok (.invokevirtual 95, 3) := by decide +kernel
theorem d_M_times_247 : decode b_M_times 247 = .ok (.aload_n 0, 1) := by decide +kernel
theorem d_M_times_248 : decode b_M_times 248 = .ok (.iconst 0, 1) := by decide +kernel
theorem d_M_times_249 : decode b_M_times 249 = .ok (.putfield 98, 3) := by decide +kernel
theorem d_M_times_252 : decode b_M_times 252 = .ok (.aload_n 0, 1) := by decide +kernel
theorem d_M_times_253 : decode b_M_times 253 = .ok (.iload 4, 2) := by decide +kernel
theorem d_M_times_255 : decode b_M_times 255 = .ok (.invokevirtual 117, 3) := by decide +kernel
theorem d_M_times_258 : decode b_M_times 258 = .ok (.aload_n 0, 1) := by decide +kernel
theorem d_M_times_259 : decode b_M_times 259 = .ok (.iload_n 1, 1) := by decide +kernel
theorem d_M_times_260 : decode b_M_times 260 = .ok (.aload_n 0, 1) := by decide +kernel
theorem d_M_times_261 : decode b_M_times 261 = .ok (.getfield 19, 3) := by decide +kernel
theorem d_M_times_264 : decode b_M_times 264 = .ok (.iload_n 2, 1) := by decide +kernel
theorem d_M_times_265 : decode b_M_times 265 = .ok (.iaload, 1) := by decide +kernel
theorem d_M_times_266 : decode b_M_times 266 = .ok (.invokevirtual 121, 3) := by decide +kernel
theorem d_M_times_269 : decode b_M_times 269 = .ok (.ireturn, 1) := by decide +kernel
set_option maxHeartbeats 4000000 in
set_option maxRecDepth 100000 in
theorem p_M_times (l : Launch) (D : va_G) (dT : Nat → ClassId) (H : Heap) (mm : Nat → Nat) (tb : Nat → TR) (tc : Nat) (RV : Nat → Option VT) (hI : mI D dT mm tb tc RV H) (r f n : Int32) : Met l y_M_times w_M_times ({ frames := 4, cells := 0, slots := 0, locals := 90 }) (z_P D dT [.ref (mm 0), .int r, .int f, .int n] H) (z_Q (mA mm) (fun v H1 => v = some (.int (kp RV r (o_times RV f n)).1) ∧ mI D dT mm tb tc (kp RV r (o_times RV f n)).2 H1)) 0 0 (mA mm) := by
  obtain ⟨wd, lf, rt, ty, F, sz, Wk, wz, dg, dc, sh, hM, hO, hT, hR, hWk⟩ := hI
  have hF := hR.1
  have htc := hO.1
  have htc10 := hO.2.1
  refine Met.ofW (cc := b_M_times) (maxL := 11) (ret := (Option.some .int)) (by decide) rfl ?_
  intro p e s m args below meth c s₁ B hml hv
  obtain ⟨rfl, rfl, hK⟩ := hv
  have hx := B.exec
  have hb := B.bytes
  have hr := B.returns
  have hts := atoms_spec (ws := w_M_times) B.pre
  have ht : ∀ w9 ∈ gt, w9.before [.ref (mm 0), .int r, .int f, .int n].toArray s = true := fun w9 h => hts w9 (List.mem_cons_of_mem _ h)
  have hown : s.vm.findClass "ValueTreesModel" = some m.cls := findClass_of_methodNamed B.named
  have hlocks := B.notSynchronized
  have hS : va_S (mA mm) s.heap s.heap [] := va_S.rf
  have hl := lv_entry ([.ref (mm 0), .int r, .int f, .int n]) (n := 11) (Nat.le_of_ble_eq_true rfl)
  rw [lg_entry_eq]
  generalize (lg_sl ([.ref (mm 0), .int r, .int f, .int n]) ++ List.replicate (11 - (lg_sl ([.ref (mm 0), .int r, .int f, .int n])).length) Slot.unset).toArray = ls at hl ⊢
  have hl : lv_has ls 11 [(0, .ref (mm 0)), (1, .int r), (2, .int f), (3, .int n)] := hl
  refine lv_iload_n hx hb d_M_times_0 rfl (lv_at hl 1 rfl) ?_
  refine z_callR (va_runS (As := [.int r]) (rest := []) ⟨hx, hb, hml, hown, hts⟩ (c_M_isRegister l D dT _ r) ⟨callB_of 1 hts (gI gd_up gd_c q619) rfl rfl rfl (ht _ q10) (ht _ q617) hd_M_isRegister ⟨Nat.le_of_ble_eq_true rfl, Nat.le_of_ble_eq_true rfl⟩, ht _ q618⟩ (z_preS hK) rfl rfl hl.1 rfl (lv_room (Nat.le_of_ble_eq_true rfl)) d_M_times_1 ⟨Nat.zero_le _, Nat.zero_le _⟩) (fun v2 hv1 => ?_)
  have hv1 : v2 = .int (if inR r then 1 else 0) := hv1
  rcases Classical.em (inR r) with hq3 | hq3
  · rw [if_pos hq3] at hv1
    subst hv1
    refine lv_if_eq (tgt := 29) hx hb d_M_times_4 (by decide) (fun c4 => absurd c4 (by decide)) (fun _ => ?_)
    obtain ⟨j, hj, rfl⟩ := inR_of hq3
    refine lv_aload_n hx hb d_M_times_7 rfl (lv_at hl 0 rfl) ?_
    refine lv_iload_n hx hb d_M_times_8 rfl (lv_at hl 2 rfl) ?_
    refine z_callR (va_runV (C := "ValueTreesModel") (As := [.int f]) (rest := []) ⟨hx, hb, hml, hown, hts⟩ (c_M_wordOf l D dT _ mm wd lf rt tc ty F sz Wk wz dg dc sh hM tb hO hT RV hR f) ⟨callB_of 1 hts (gI gd_up gd_c q658) rfl rfl rfl (ht _ q10) (ht _ q655) hd_M_wordOf ⟨Nat.le_of_ble_eq_true rfl, Nat.le_of_ble_eq_true rfl⟩, ht _ q657, ht _ qs26⟩ (z_preV hK (va_recv hK.1 hM.1 (ci := 10) (q0 := 0) rfl rfl)) rfl rfl hl.1 rfl (lv_room (Nat.le_of_ble_eq_true rfl)) d_M_times_9 ⟨Nat.zero_le _, Nat.zero_le _⟩) (fun v6 hv5 => ?_)
    have hv5 : v6 = .int (match rgs RV f with | none => -1 | some v => nI (tW (tb (vty v)))) := hv5
    cases hr7 : rgs RV f with
    | none =>
      rw [hr7] at hv5
      subst hv5
      try dsimp only
      refine W.eq (g2 := F0 m 12 ls [.int (-1)]) rfl ?_
      refine z_callR (va_runS (As := [.int (-1)]) (rest := []) ⟨hx, hb, hml, hown, hts⟩ (c_M_isNumber l D dT _ (-1)) ⟨callB_of 1 hts (gI gd_up gd_c q622) rfl rfl rfl (ht _ q10) (ht _ q620) hd_M_isNumber ⟨Nat.le_of_ble_eq_true rfl, Nat.le_of_ble_eq_true rfl⟩, ht _ q621⟩ (z_preS hK) rfl rfl hl.1 rfl (lv_room (Nat.le_of_ble_eq_true rfl)) d_M_times_12 ⟨Nat.zero_le _, Nat.zero_le _⟩) (fun v11 hv10 => ?_)
      have hv10 : v11 = .int (if isNum (-1) then 1 else 0) := hv10
      rw [if_neg (by decide)] at hv10
      subst hv10
      refine lv_if_eq (tgt := 29) hx hb d_M_times_15 (by decide) (fun _ => ?_) (fun c13 => absurd c13 (by decide))
      refine lv_iconst (v := (-1)) hx hb d_M_times_29 (by decide) ?_
      refine z_iretQ hx hb hr hlocks d_M_times_30 hS (Nat.le_refl _) (Nat.le_refl _) ?_
      have eo : o_times RV f n = none := ti_none hr7
      rw [eo]
      exact ⟨rfl, _, _, _, _, _, _, _, _, _, _, _, hM, hO, hT, hR, hWk⟩
    | some v8 =>
      rw [hr7] at hv5
      subst hv5
      refine W.eq (g2 := F0 m 12 ls [.int (nI (tW (tb (vty v8))))]) rfl ?_
      obtain ⟨j9, hj9, rfl, hV8⟩ := rgs_some hr7
      obtain ⟨ht8, et8, hw8, es8, hn8, hf8⟩ := mR_some hR hj9 hV8
      have hwl0 := (hO.2.2 _ ht8).1
      refine z_callR (va_runS (As := [.int (nI (tW (tb (vty v8))))]) (rest := []) ⟨hx, hb, hml, hown, hts⟩ (c_M_isNumber l D dT _ (nI (tW (tb (vty v8))))) ⟨callB_of 1 hts (gI gd_up gd_c q622) rfl rfl rfl (ht _ q10) (ht _ q620) hd_M_isNumber ⟨Nat.le_of_ble_eq_true rfl, Nat.le_of_ble_eq_true rfl⟩, ht _ q621⟩ (z_preS hK) rfl rfl hl.1 rfl (lv_room (Nat.le_of_ble_eq_true rfl)) d_M_times_12 ⟨Nat.zero_le _, Nat.zero_le _⟩) (fun v15 hv14 => ?_)
      have hv14 : v15 = .int (if isNum (nI (tW (tb (vty v8)))) then 1 else 0) := hv14
      rcases Classical.em (isNum (nI (tW (tb (vty v8))))) with hq16 | hq16
      · rw [if_pos hq16] at hv14
        subst hv14
        refine lv_if_eq (tgt := 29) hx hb d_M_times_15 (by decide) (fun c17 => absurd c17 (by decide)) (fun _ => ?_)
        obtain ⟨z, ev, hz9⟩ := num_of hw8 ((isNum_nI (by have := (hO.2.2 _ ht8).1; omega)).mp hq16)
        have hfz : F (160 * j9) = 0 ∧ fAt F (160 * j9 + 1) (nser z) := by have h9 := hf8; rw [ev] at h9; exact f_num.mp h9
        have hlz : 1 + (nser z).length ≤ 160 := by have h9 := hn8; rw [ev, l_num] at h9; exact h9
        have hword := (isNum_nI (by have := (hO.2.2 _ ht8).1; omega)).mp hq16
        have hm9 : nb z.natAbs ≤ 1024 := nb_lt.mpr hz9
        have hwl := (hO.2.2 _ ht8).1
        have hwt : tW (tb (vty v8)) = vty v8 := (hO.2.2 _ ht8).2.1 (by omega)
        refine lv_iload_n hx hb d_M_times_18 rfl (lv_at hl 3 rfl) ?_
        refine lv_if_lt (tgt := 29) hx hb d_M_times_19 (by decide) (fun c18 => ?_) (fun c18 => ?_)
        · refine lv_iconst (v := (-1)) hx hb d_M_times_29 (by decide) ?_
          refine z_iretQ hx hb hr hlocks d_M_times_30 hS (Nat.le_refl _) (Nat.le_refl _) ?_
          have eo : o_times RV (nI j9) n = none := ti_n (Or.inl c18)
          rw [eo]
          exact ⟨rfl, _, _, _, _, _, _, _, _, _, _, _, hM, hO, hT, hR, hWk⟩
        · refine lv_iload_n hx hb d_M_times_22 rfl (lv_at hl 3 rfl) ?_
          refine lv_sipush (v := 1000) hx hb d_M_times_23 (by decide) ?_
          refine lv_icmp_le (tgt := 31) hx hb d_M_times_26 (by decide) (fun c19 => ?_) (fun c19 => ?_)
          · obtain ⟨nn, hnn, rfl⟩ := nI_of c18
            have hn9 : nn ≤ 1000 := (nI_leI (b := 1000) hnn (by decide)).mp c19
            refine lv_aload_n hx hb d_M_times_31 rfl (lv_at hl 0 rfl) ?_
            refine lv_iload_n hx hb d_M_times_32 rfl (lv_at hl 2 rfl) ?_
            refine z_callR (va_runS (As := [.int (nI j9)]) (rest := [.ref (mm 0)]) ⟨hx, hb, hml, hown, hts⟩ (c_M_base l D dT _ (nI j9)) ⟨callB_of 1 hts (gI gd_up gd_c q650) rfl rfl rfl (ht _ q10) (ht _ q648) hd_M_base ⟨Nat.le_of_ble_eq_true rfl, Nat.le_of_ble_eq_true rfl⟩, ht _ q649⟩ (z_preS hK) rfl rfl hl.1 rfl (lv_room (Nat.le_of_ble_eq_true rfl)) d_M_times_33 ⟨Nat.zero_le _, Nat.zero_le _⟩) (fun v21 hv20 => ?_)
            subst hv20
            rw [show (160 * nI j9 : Int32) = nI (160 * j9) from pk_mul 160 j9]
            refine z_callQ (va_runV (C := "ValueTreesModel") (As := [.int (nI (160 * j9))]) (rest := []) ⟨hx, hb, hml, hown, hts⟩ (c_M_load l D dT _ mm wd lf rt tc ty F sz Wk wz dg dc sh hM hF (160 * j9) z hz9 hfz.2 (by omega)) ⟨callB_of 1 hts (gI gd_up gd_c q666) rfl rfl rfl (ht _ q10) (ht _ q663) hd_M_load ⟨Nat.le_of_ble_eq_true rfl, Nat.le_of_ble_eq_true rfl⟩, ht _ q665, ht _ qs28⟩ (z_preV hK (va_recv hK.1 hM.1 (ci := 10) (q0 := 0) rfl rfl)) rfl rfl hl.1 rfl (lv_room (Nat.le_of_ble_eq_true rfl)) d_M_times_36 ⟨Nat.le_refl _, Nat.le_refl _⟩) hS (fun _ h9 => h9) (fun v23 H locs hv22 hz24 hf25 hS => ?_)
            obtain ⟨rfl, dg, dc, hdx, hdcx, hvx, htrx, hM⟩ := hv22
            refine W.eq (g2 := F0 m 39 ls [.int (if z < 0 then 1 else 0)]) rfl ?_
            rcases Classical.em (z < 0) with hzx | hzx
            · rw [if_pos hzx]
              refine lv_istore (lv' := [(4, .int 1), (0, .ref (mm 0)), (1, .int (nI j)), (2, .int (nI j9)), (3, .int (nI nn))]) hx hb d_M_times_39 hl (by decide) rfl (fun ls hl => ?_)
              have hd := hdx
              have hdc := hdcx
              have hdv := hvx
              have htr := htrx
              have hdc64 := dc_64 hd htr (by rw [hdv]; exact hm9)
              refine lv_aload_n hx hb d_M_times_41 rfl (lv_at hl 1 rfl) ?_
              refine z_callR (va_runV (C := "ValueTreesModel") (As := []) (rest := []) ⟨hx, hb, hml, hown, hts⟩ (c_M_bits l D dT _ mm wd lf rt tc ty F sz Wk wz dg dc sh hM hd hdc htr) ⟨callB_of 0 hts (gI gd_up gd_c q631) rfl rfl rfl (ht _ q10) (ht _ q628) hd_M_bits ⟨Nat.le_of_ble_eq_true rfl, Nat.le_of_ble_eq_true rfl⟩, ht _ q630, ht _ qs21⟩ (z_preV hK (va_recv hK.1 hM.1 (ci := 10) (q0 := 0) rfl rfl)) rfl rfl hl.1 rfl (lv_room (Nat.le_of_ble_eq_true rfl)) d_M_times_42 ⟨Nat.zero_le _, Nat.zero_le _⟩) (fun v27 hv26 => ?_)
              have hv26 : v27 = .int (nI (nb z.natAbs)) := by rw [← hdv]; exact hv26
              subst hv26
              refine lv_istore (lv' := [(5, .int (nI (nb z.natAbs))), (4, .int 1), (0, .ref (mm 0)), (1, .int (nI j)), (2, .int (nI j9)), (3, .int (nI nn))]) hx hb d_M_times_45 hl (by decide) rfl (fun ls hl => ?_)
              rcases Nat.eq_zero_or_pos (nb z.natAbs) with hnb | hnb
              · refine lv_iload hx hb d_M_times_47 (lv_at hl 0 rfl) ?_
                refine lv_if_le (tgt := 78) hx hb d_M_times_49 (by decide) (fun c28 => ?_) (fun c28 => absurd ((nI_leI (a := (nb z.natAbs)) (b := 0) (by omega) (by omega)).mpr (by omega)) c28)
                have hlim : nb z.natAbs = 0 ∨ nb z.natAbs + nn ≤ (if vty v8 = 4 then 63 else 1024) := Or.inl hnb
                have hPl : z.natAbs * 2 ^ nn < 2 ^ 1024 := by rw [nb_0 hnb, Nat.zero_mul]; exact Nat.two_pow_pos _
                have hw63 : tW (tb (vty v8)) = 4 → z.natAbs * 2 ^ nn < 2 ^ 63 := fun _ => by rw [nb_0 hnb, Nat.zero_mul]; exact Nat.two_pow_pos _
                obtain ⟨P, hP⟩ : ∃ y, y = z.natAbs * 2 ^ nn := ⟨_, rfl⟩
                refine lv_iload_n hx hb d_M_times_78 rfl (lv_at hl 5 rfl) ?_
                refine lv_bipush (v := 16) hx hb d_M_times_79 (by decide) ?_
                refine lv_idiv hx hb d_M_times_81 (by decide) ?_
                rw [show (((nI nn) / 16) : Int32) = nI (nn / 16) from pk_div (a := nn) (d := 16) (by omega) (by decide) (by decide)]
                refine lv_istore (lv' := [(6, .int (nI (nn / 16))), (5, .int (nI (nb z.natAbs))), (4, .int 1), (0, .ref (mm 0)), (1, .int (nI j)), (2, .int (nI j9)), (3, .int (nI nn))]) hx hb d_M_times_82 hl (by decide) rfl (fun ls hl => ?_)
                refine lv_iload_n hx hb d_M_times_84 rfl (lv_at hl 6 rfl) ?_
                refine lv_bipush (v := 16) hx hb d_M_times_85 (by decide) ?_
                refine lv_irem hx hb d_M_times_87 (by decide) ?_
                rw [show (((nI nn) - (nI nn) / 16 * 16) : Int32) = nI (nn % 16) from pk_rem (a := nn) (d := 16) (by omega) (by decide) (by decide)]
                refine lv_istore (lv' := [(7, .int (nI (nn % 16))), (6, .int (nI (nn / 16))), (5, .int (nI (nb z.natAbs))), (4, .int 1), (0, .ref (mm 0)), (1, .int (nI j)), (2, .int (nI j9)), (3, .int (nI nn))]) hx hb d_M_times_88 hl (by decide) rfl (fun ls hl => ?_)
                refine lv_iload hx hb d_M_times_90 (lv_at hl 2 rfl) ?_
                refine lv_if_ne (tgt := 99) hx hb d_M_times_92 (by decide) (fun c29 => absurd ((nI_eq (a := (nb z.natAbs)) (b := 0) (by omega) (by omega)).mpr (by omega)) c29) (fun c29 => ?_)
                refine lv_iconst (v := (-1)) hx hb d_M_times_95 (by decide) ?_
                refine lv_goto (tgt := 106) hx hb d_M_times_96 (by decide) ?_
                refine lv_istore (lv' := [(8, .int (-1)), (7, .int (nI (nn % 16))), (6, .int (nI (nn / 16))), (5, .int (nI (nb z.natAbs))), (4, .int 1), (0, .ref (mm 0)), (1, .int (nI j)), (2, .int (nI j9)), (3, .int (nI nn))]) hx hb d_M_times_106 hl (by decide) rfl (fun ls hl => ?_)
                refine lv_iload hx hb d_M_times_108 (lv_at hl 0 rfl) ?_
                refine lv_if_lt (tgt := 189) hx hb d_M_times_110 (by decide) (fun _ => ?_) (fun c30 => absurd c30 (by decide))
                refine lv_aload_n hx hb d_M_times_189 rfl (lv_at hl 5 rfl) ?_
                refine lv_iload hx hb d_M_times_190 (lv_at hl 3 rfl) ?_
                refine lv_if_ne (tgt := 199) hx hb d_M_times_192 (by decide) (fun c31 => absurd ((nI_eq (a := (nb z.natAbs)) (b := 0) (by omega) (by omega)).mpr (by omega)) c31) (fun c31 => ?_)
                refine lv_iconst (v := 0) hx hb d_M_times_195 (by decide) ?_
                refine lv_goto (tgt := 208) hx hb d_M_times_196 (by decide) ?_
                refine m_put_dc hx hb ht hown hK hM hS (ht _ q549) 0 rfl d_M_times_208 (fun H locs hM hS => ?_)
                have hM : mAt D dT mm wd lf rt tc ty F sz Wk wz dg 0 sh H := hM
                refine lv_iconst (v := 0) hx hb d_M_times_211 (by decide) ?_
                refine lv_istore (lv' := [(8, .int 0), (7, .int (nI (nn % 16))), (6, .int (nI (nn / 16))), (5, .int (nI (nb z.natAbs))), (4, .int 1), (0, .ref (mm 0)), (1, .int (nI j)), (2, .int (nI j9)), (3, .int (nI nn))]) hx hb d_M_times_212 hl (by decide) rfl (fun ls hl => ?_)
                have hsh9 : ∀ q, q < 0 → sh q = P / 65536 ^ q % 65536 := (fun q h2 => absurd h2 (Nat.not_lt_zero q))
                have loop32 : ∀ (n2149 : Nat) (k : Nat), (k ≤ 0) → 0 - k < n2149 → ∀ (H : Heap) (locs : List Loc) (eg : Nat → Nat), (∀ q, q < k → eg q = P / 65536 ^ q % 65536) → mAt D dT mm wd lf rt tc ty F sz Wk wz eg 0 sh H → va_S (mA mm) s.heap H locs → ∀ (ls : Array Slot), lv_has ls 11 [(8, .int (nI k)), (4, .int 1), (0, .ref (mm 0)), (1, .int (nI j)), (2, .int (nI j9))] → W p l e (headSpec w_M_times ({ frames := 4, cells := 0, slots := 0, locals := 90 })).room s m [.ref (mm 0), .int (nI j), .int (nI j9), .int (nI nn)].toArray below meth c H locs 0 0 (MQ below (z_Q (mA mm) (fun v H1 => v = some (.int (kp RV (nI j) (o_times RV (nI j9) (nI nn))).1) ∧ mI D dT mm tb tc (kp RV (nI j) (o_times RV (nI j9) (nI nn))).2 H1)) [.ref (mm 0), .int (nI j), .int (nI j9), .int (nI nn)].toArray s 0 0 (mA mm)) (F0 m 214 ls []) := by
                  intro n2149
                  induction n2149 with
                  | zero =>
                    intro k hk h2149
                    exact absurd h2149 (Nat.not_lt_zero _)
                  | succ n2149 ih214 =>
                    intro k hk h2149 H locs eg heg hM hS ls hl
                    refine lv_iload hx hb d_M_times_214 (lv_at hl 0 rfl) ?_
                    refine lv_aload_n hx hb d_M_times_216 rfl (lv_at hl 2 rfl) ?_
                    refine va_get (D := D) (ci := 10) (v := .int (nI 0)) (C := "ValueTreesModel") (T := T_M) (N := 12) hx hb ht in_M hown hK.1 hM.1 0 rfl rfl 10 (by decide) (ht _ q549) (fun _ h9 => h9) rfl d_M_times_217 ?_
                    refine lv_icmp_ge (tgt := 243) hx hb d_M_times_220 (by decide) (fun c33 => ?_) (fun c33 => ?_)
                    · have nc33 : 0 ≤ k := (nI_leI (a := 0) (b := k) (by omega) (by omega)).mp c33
                      have e9 : k = 0 := by omega
                      have hPK : P < 65536 ^ (0) := by rw [hP, nb_0 hnb, Nat.zero_mul]; exact Nat.pow_pos (by decide)
                      have hd : ∀ q, q < 0 → eg q < 65536 := fun q hq => by rw [heg q (by omega)]; exact Nat.mod_lt _ (by decide)
                      have hdc : 0 ≤ 140 := by omega
                      have hdP : dval eg (0) = P := by rw [dig_dval (fun q hq => heg q (by omega)), Nat.mod_eq_of_lt hPK]
                      refine lv_aload_n hx hb d_M_times_243 rfl (lv_at hl 2 rfl) ?_
                      refine z_callQ (va_runV (C := "ValueTreesModel") (As := []) (rest := []) ⟨hx, hb, hml, hown, hts⟩ (c_M_trim l D dT _ mm wd lf rt tc ty F sz Wk wz eg 0 sh hM hdc hd) ⟨callB_of 0 hts (gI gd_up gd_c q678) rfl rfl rfl (ht _ q10) (ht _ q675) hd_M_trim ⟨Nat.le_of_ble_eq_true rfl, Nat.le_of_ble_eq_true rfl⟩, ht _ q677, ht _ qs31⟩ (z_preV hK (va_recv hK.1 hM.1 (ci := 10) (q0 := 0) rfl rfl)) rfl rfl hl.1 rfl (lv_room (Nat.le_of_ble_eq_true rfl)) d_M_times_244 ⟨Nat.le_refl _, Nat.le_refl _⟩) hS (fun _ h9 => h9) (fun v35 H locs hv34 hz36 hf37 hS => ?_)
                      obtain ⟨rfl, ec, hec, hval8, htr, hM⟩ := hv34
                      refine W.eq (g2 := F0 m 247 ls []) rfl ?_
                      obtain ⟨hts1, hts2⟩ := times_sgn (z := z) (n := nn)
                      have hdv2 : dval eg ec = (z * 2 ^ nn).natAbs := by rw [hval8, hdP, hts2, hP]
                      have hzz : (z * 2 ^ nn).natAbs < 2 ^ 1024 := by rw [hts2]; exact hPl
                      have hz0 : z * 2 ^ nn < 0 := hts1.mpr hzx
                      refine lv_aload_n hx hb d_M_times_247 rfl (lv_at hl 2 rfl) ?_
                      refine lv_iconst (v := 0) hx hb d_M_times_248 (by decide) ?_
                      refine m_put_wz hx hb ht hown hK hM hS (ht _ q547) 0 rfl d_M_times_249 (fun H locs hM hS => ?_)
                      have hM : mAt D dT mm wd lf rt tc ty F sz Wk 0 eg ec sh H := hM
                      have hW : wAt Wk ([] : List Nat) := wAt_nil hWk
                      have hM : mAt D dT mm wd lf rt tc ty F sz Wk (([] : List Nat).length) eg ec sh H := hM
                      refine lv_aload_n hx hb d_M_times_252 rfl (lv_at hl 2 rfl) ?_
                      refine lv_iload hx hb d_M_times_253 (lv_at hl 1 rfl) ?_
                      refine W.eq (g2 := F0 m 255 ls [.int (if z * 2 ^ nn < 0 then 1 else 0), .ref (mm 0)]) (by rw [if_pos hz0]) ?_
                      refine z_callQ (va_runV (C := "ValueTreesModel") (As := [.int (if z * 2 ^ nn < 0 then 1 else 0)]) (rest := []) ⟨hx, hb, hml, hown, hts⟩ (c_M_putNumber l D dT _ mm wd lf rt tc ty F sz Wk ([] : List Nat) eg ec sh hM hW (fun q hq => hd q (by omega)) (by omega) (z * 2 ^ nn) hzz hdv2 htr (by decide)) ⟨callB_of 1 hts (gI gd_up gd_c q627) rfl rfl rfl (ht _ q10) (ht _ q624) hd_M_putNumber ⟨Nat.le_of_ble_eq_true rfl, Nat.le_of_ble_eq_true rfl⟩, ht _ q626, ht _ qs20⟩ (z_preV hK (va_recv hK.1 hM.1 (ci := 10) (q0 := 0) rfl rfl)) rfl rfl hl.1 rfl (lv_room (Nat.le_of_ble_eq_true rfl)) d_M_times_255 ⟨Nat.le_refl _, Nat.le_refl _⟩) hS (fun _ h9 => h9) (fun v39 H locs hv38 hz40 hf41 hS => ?_)
                      obtain ⟨rfl, Wk, hW, hM⟩ := hv38
                      refine W.eq (g2 := F0 m 258 ls []) rfl ?_
                      refine lv_aload_n hx hb d_M_times_258 rfl (lv_at hl 2 rfl) ?_
                      refine lv_iload_n hx hb d_M_times_259 rfl (lv_at hl 3 rfl) ?_
                      refine lv_aload_n hx hb d_M_times_260 rfl (lv_at hl 2 rfl) ?_
                      refine va_get (D := D) (ci := 10) (v := .ref (mm 4)) (C := "ValueTreesModel") (T := T_M) (N := 12) hx hb ht in_M hown hK.1 hM.1 0 rfl rfl 4 (by decide) (ht _ q543) (fun _ h9 => h9) rfl d_M_times_261 ?_
                      refine lv_iload_n hx hb d_M_times_264 rfl (lv_at hl 4 rfl) ?_
                      refine z_iald hx hb hK (hM.1 4 _ rfl) j9 rfl (by omega) (by decide) d_M_times_265 ?_
                      rw [et8]
                      have hnn0 : (tW (tb (vty v8)) = 3 ∨ tW (tb (vty v8)) = 4) → 0 ≤ z * 2 ^ nn := fun h9 => by
                        have h8 := hw8
                        rw [ev] at h8
                        have h7 := h8.2.2.2.2.2.1 (by simpa [vty] using h9)
                        exact Int.not_lt.mp (fun h6 => absurd (hts1.mp h6) (by omega))
                      have ebs : ([] : List Nat) ++ (0 :: nser (z * 2 ^ nn)) = cs (.pow (.num (z * 2 ^ nn)) (vty v8)) := rfl
                      rw [ebs] at hW hM
                      refine z_callQ (va_runV (C := "ValueTreesModel") (As := [.int (nI j), .int (nI (vty v8))]) (rest := []) ⟨hx, hb, hml, hown, hts⟩ (c_M_keep l D dT _ mm wd lf rt tc ty F sz Wk (cs (.pow (.num (z * 2 ^ nn)) (vty v8))) eg ec sh hM hW j (vty v8) hj (by rw [← ebs]; have h9 := nser_len (z * 2 ^ nn); have h8 := nb_lt.mpr hzz; simp only [List.length_append, List.length_cons, List.length_nil, size4_len]; omega)) ⟨callB_of 2 hts (gI gd_up gd_c q647) rfl rfl rfl (ht _ q10) (ht _ q644) hd_M_keep ⟨Nat.le_of_ble_eq_true rfl, Nat.le_of_ble_eq_true rfl⟩, ht _ q646, ht _ qs25⟩ (z_preV hK (va_recv hK.1 hM.1 (ci := 10) (q0 := 0) rfl rfl)) rfl rfl hl.1 rfl (lv_room (Nat.le_of_ble_eq_true rfl)) d_M_times_266 ⟨Nat.le_refl _, Nat.le_refl _⟩) hS (fun _ h9 => h9) (fun v43 H locs hv42 hz44 hf45 hS => ?_)
                      rcases hv42 with ⟨hk1, rfl, hM⟩ | ⟨hk1, rfl, hM⟩
                      · refine W.eq (g2 := F0 m 269 ls [.int (-2)]) rfl ?_
                        refine z_iretQ hx hb hr hlocks d_M_times_269 hS (Nat.le_refl _) (Nat.le_refl _) ?_
                        have eo := show o_times RV (nI j9) (nI nn) = some (.pow (.num (z * 2 ^ nn)) (vty v8)) from (by rw [ti_ev hj9 hV8 ev hn9]; exact if_pos hlim)
                        rw [eo]
                        exact kO_done ⟨_, _, _, _, _, hW.1, Or.inl ⟨hk1, rfl, hM⟩⟩ hO hT hR hj ht8 ⟨rfl, rfl, rfl, hword, hzz, hnn0, fun h9 => by rw [hts2]; exact hw63 h9⟩
                      · refine W.eq (g2 := F0 m 269 ls [.int (nI (cs (.pow (.num (z * 2 ^ nn)) (vty v8))).length)]) rfl ?_
                        refine z_iretQ hx hb hr hlocks d_M_times_269 hS (Nat.le_refl _) (Nat.le_refl _) ?_
                        have eo := show o_times RV (nI j9) (nI nn) = some (.pow (.num (z * 2 ^ nn)) (vty v8)) from (by rw [ti_ev hj9 hV8 ev hn9]; exact if_pos hlim)
                        rw [eo]
                        exact kO_done ⟨_, _, _, _, _, hW.1, Or.inr ⟨hk1, rfl, hM⟩⟩ hO hT hR hj ht8 ⟨rfl, rfl, rfl, hword, hzz, hnn0, fun h9 => by rw [hts2]; exact hw63 h9⟩
                    · have nc33 : ¬ 0 ≤ k := fun h9 => c33 ((nI_leI (a := 0) (b := k) (by omega) (by omega)).mpr h9)
                      refine lv_aload_n hx hb d_M_times_223 rfl (lv_at hl 2 rfl) ?_
                      refine va_get (D := D) (ci := 10) (v := .ref (mm 8)) (C := "ValueTreesModel") (T := T_M) (N := 12) hx hb ht in_M hown hK.1 hM.1 0 rfl rfl 9 (by decide) (ht _ q548) (fun _ h9 => h9) rfl d_M_times_224 ?_
                      refine lv_iload hx hb d_M_times_227 (lv_at hl 0 rfl) ?_
                      refine lv_aload_n hx hb d_M_times_229 rfl (lv_at hl 2 rfl) ?_
                      refine va_get (D := D) (ci := 10) (v := .ref (mm 9)) (C := "ValueTreesModel") (T := T_M) (N := 12) hx hb ht in_M hown hK.1 hM.1 0 rfl rfl 11 (by decide) (ht _ q550) (fun _ h9 => h9) rfl d_M_times_230 ?_
                      refine lv_iload hx hb d_M_times_233 (lv_at hl 0 rfl) ?_
                      refine z_iald hx hb hK (hM.1 9 _ rfl) k rfl (by omega) (by decide) d_M_times_235 ?_
                      refine m_ast_dg hx hb hK hM hS k rfl (by omega) (sh k) rfl d_M_times_236 (fun H locs hM hS => ?_)
                      have hM : mAt D dT mm wd lf rt tc ty F sz Wk wz (updN eg k (sh k)) 0 sh H := hM
                      refine lv_iinc (v := (nI (k + 1))) (lv' := [(8, .int (nI (k + 1))), (4, .int 1), (0, .ref (mm 0)), (1, .int (nI j)), (2, .int (nI j9))]) hx hb d_M_times_237 hl (k := 0) rfl (nI_1 k) (by decide) rfl (fun ls hl => ?_)
                      refine lv_goto (tgt := 214) hx hb d_M_times_240 (by decide) ?_
                      exact ih214 (k + 1) (by omega) (by omega) _ _ _ (lt_s (fun q hq => by rw [updN_n (by omega)]; exact heg q hq) (by rw [updN_s]; exact hsh9 k (by omega))) hM hS ls (lv_sub hl [0, 1, 2, 3, 4] rfl)
                exact loop32 (0 + 1) 0 (by omega) (by omega) _ _ dg (fun q hq => absurd hq (Nat.not_lt_zero q)) hM hS ls (lv_sub hl [0, 4, 5, 6, 7] rfl)
              · refine lv_iload hx hb d_M_times_47 (lv_at hl 0 rfl) ?_
                refine lv_if_le (tgt := 78) hx hb d_M_times_49 (by decide) (fun c46 => absurd ((nI_leI (a := (nb z.natAbs)) (b := 0) (by omega) (by omega)).mp c46) (by omega)) (fun c46 => ?_)
                refine lv_iload hx hb d_M_times_52 (lv_at hl 0 rfl) ?_
                refine lv_iload_n hx hb d_M_times_54 rfl (lv_at hl 5 rfl) ?_
                refine lv_iadd hx hb d_M_times_55 ?_
                rw [show (((nI (nb z.natAbs)) + (nI nn)) : Int32) = nI ((nb z.natAbs) + nn) from nI_add (nb z.natAbs) nn]
                refine lv_aload_n hx hb d_M_times_56 rfl (lv_at hl 2 rfl) ?_
                refine lv_iload_n hx hb d_M_times_57 rfl (lv_at hl 4 rfl) ?_
                refine z_callR (va_runV (C := "ValueTreesModel") (As := [.int (nI j9)]) (rest := [.int (nI ((nb z.natAbs) + nn))]) ⟨hx, hb, hml, hown, hts⟩ (c_M_wordOf l D dT _ mm wd lf rt tc ty F sz Wk wz dg dc sh hM tb hO hT RV hR (nI j9)) ⟨callB_of 1 hts (gI gd_up gd_c q658) rfl rfl rfl (ht _ q10) (ht _ q655) hd_M_wordOf ⟨Nat.le_of_ble_eq_true rfl, Nat.le_of_ble_eq_true rfl⟩, ht _ q657, ht _ qs26⟩ (z_preV hK (va_recv hK.1 hM.1 (ci := 10) (q0 := 0) rfl rfl)) rfl rfl hl.1 rfl (lv_room (Nat.le_of_ble_eq_true rfl)) d_M_times_58 ⟨Nat.zero_le _, Nat.zero_le _⟩) (fun v48 hv47 => ?_)
                rw [rgs_nI hj9, hV8] at hv47
                subst hv47
                refine W.eq (g2 := F0 m 61 ls [.int (nI (tW (tb (vty v8)))), .int (nI ((nb z.natAbs) + nn))]) rfl ?_
                refine lv_iconst (v := 4) hx hb d_M_times_61 (by decide) ?_
                refine lv_icmp_ne (tgt := 70) hx hb d_M_times_62 (by decide) (fun c49 => ?_) (fun c49 => ?_)
                · have nc49 : ¬ (tW (tb (vty v8))) = 4 := fun h9 => c49 ((nI_eq (a := (tW (tb (vty v8)))) (b := 4) (by omega) (by omega)).mpr h9)
                  refine lv_sipush (v := 1024) hx hb d_M_times_70 (by decide) ?_
                  refine lv_icmp_le (tgt := 78) hx hb d_M_times_73 (by decide) (fun c50 => ?_) (fun c50 => ?_)
                  · have nc50 : ((nb z.natAbs) + nn) ≤ 1024 := (nI_leI (a := ((nb z.natAbs) + nn)) (b := 1024) (by omega) (by omega)).mp c50
                    have hlim0 : nb z.natAbs + nn ≤ (if vty v8 = 4 then 63 else 1024) := by split <;> omega
                    have hlim : nb z.natAbs = 0 ∨ nb z.natAbs + nn ≤ (if vty v8 = 4 then 63 else 1024) := Or.inr hlim0
                    have hPl : z.natAbs * 2 ^ nn < 2 ^ 1024 := mul_lt2 (by have h9 := hlim0; split at h9 <;> omega)
                    have hw63 : tW (tb (vty v8)) = 4 → z.natAbs * 2 ^ nn < 2 ^ 63 := fun h9 => mul_lt2 (by rw [if_pos (by omega)] at hlim0; exact hlim0)
                    obtain ⟨P, hP⟩ : ∃ y, y = z.natAbs * 2 ^ nn := ⟨_, rfl⟩
                    refine lv_iload_n hx hb d_M_times_78 rfl (lv_at hl 5 rfl) ?_
                    refine lv_bipush (v := 16) hx hb d_M_times_79 (by decide) ?_
                    refine lv_idiv hx hb d_M_times_81 (by decide) ?_
                    rw [show (((nI nn) / 16) : Int32) = nI (nn / 16) from pk_div (a := nn) (d := 16) (by omega) (by decide) (by decide)]
                    refine lv_istore (lv' := [(6, .int (nI (nn / 16))), (5, .int (nI (nb z.natAbs))), (4, .int 1), (0, .ref (mm 0)), (1, .int (nI j)), (2, .int (nI j9)), (3, .int (nI nn))]) hx hb d_M_times_82 hl (by decide) rfl (fun ls hl => ?_)
                    refine lv_iload_n hx hb d_M_times_84 rfl (lv_at hl 6 rfl) ?_
                    refine lv_bipush (v := 16) hx hb d_M_times_85 (by decide) ?_
                    refine lv_irem hx hb d_M_times_87 (by decide) ?_
                    rw [show (((nI nn) - (nI nn) / 16 * 16) : Int32) = nI (nn % 16) from pk_rem (a := nn) (d := 16) (by omega) (by decide) (by decide)]
                    refine lv_istore (lv' := [(7, .int (nI (nn % 16))), (6, .int (nI (nn / 16))), (5, .int (nI (nb z.natAbs))), (4, .int 1), (0, .ref (mm 0)), (1, .int (nI j)), (2, .int (nI j9)), (3, .int (nI nn))]) hx hb d_M_times_88 hl (by decide) rfl (fun ls hl => ?_)
                    refine lv_iload hx hb d_M_times_90 (lv_at hl 2 rfl) ?_
                    refine lv_if_ne (tgt := 99) hx hb d_M_times_92 (by decide) (fun c51 => ?_) (fun c51 => absurd ((nI_eq (a := (nb z.natAbs)) (b := 0) (by omega) (by omega)).mp c51) (by omega))
                    refine lv_aload_n hx hb d_M_times_99 rfl (lv_at hl 4 rfl) ?_
                    refine va_get (D := D) (ci := 10) (v := .int (nI dc)) (C := "ValueTreesModel") (T := T_M) (N := 12) hx hb ht in_M hown hK.1 hM.1 0 rfl rfl 10 (by decide) (ht _ q549) (fun _ h9 => h9) rfl d_M_times_100 ?_
                    refine lv_iload hx hb d_M_times_103 (lv_at hl 1 rfl) ?_
                    refine lv_iadd hx hb d_M_times_105 ?_
                    rw [show (((nI dc) + (nI (nn / 16))) : Int32) = nI (dc + (nn / 16)) from nI_add dc (nn / 16)]
                    refine lv_istore (lv' := [(8, .int (nI (dc + (nn / 16)))), (7, .int (nI (nn % 16))), (6, .int (nI (nn / 16))), (5, .int (nI (nb z.natAbs))), (4, .int 1), (0, .ref (mm 0)), (1, .int (nI j)), (2, .int (nI j9)), (3, .int (nI nn))]) hx hb d_M_times_106 hl (by decide) rfl (fun ls hl => ?_)
                    rw [show nI (dc + nn / 16) = nI (dc + nn / 16 + 1) - 1 from (nI_pred _).symm] at hl
                    have loop52 : ∀ (n1089 : Nat) (i : Nat), (i ≤ dc + nn / 16 + 1) → i < n1089 → ∀ (H : Heap) (locs : List Loc) (sh : Nat → Nat), (∀ q, i ≤ q → q < dc + nn / 16 + 1 → sh q = P / 65536 ^ q % 65536) → mAt D dT mm wd lf rt tc ty F sz Wk wz dg dc sh H → va_S (mA mm) s.heap H locs → ∀ (ls : Array Slot), lv_has ls 11 [(8, .int (nI i - 1)), (6, .int (nI (nn / 16))), (7, .int (nI (nn % 16))), (5, .int (nI (nb z.natAbs))), (4, .int 1), (0, .ref (mm 0)), (1, .int (nI j)), (2, .int (nI j9)), (3, .int (nI nn))] → W p l e (headSpec w_M_times ({ frames := 4, cells := 0, slots := 0, locals := 90 })).room s m [.ref (mm 0), .int (nI j), .int (nI j9), .int (nI nn)].toArray below meth c H locs 0 0 (MQ below (z_Q (mA mm) (fun v H1 => v = some (.int (kp RV (nI j) (o_times RV (nI j9) (nI nn))).1) ∧ mI D dT mm tb tc (kp RV (nI j) (o_times RV (nI j9) (nI nn))).2 H1)) [.ref (mm 0), .int (nI j), .int (nI j9), .int (nI nn)].toArray s 0 0 (mA mm)) (F0 m 108 ls []) := by
                      intro n1089
                      induction n1089 with
                      | zero =>
                        intro i hi h1089
                        exact absurd h1089 (Nat.not_lt_zero _)
                      | succ n1089 ih108 =>
                        intro i hi h1089 H locs sh hsh hM hS ls hl
                        cases i with
                        | zero =>
                          rw [show nI 0 - 1 = (-1 : Int32) by decide] at hl
                          refine lv_iload hx hb d_M_times_108 (lv_at hl 0 rfl) ?_
                          refine lv_if_lt (tgt := 189) hx hb d_M_times_110 (by decide) (fun _ => ?_) (fun c53 => absurd c53 (by decide))
                          refine lv_aload_n hx hb d_M_times_189 rfl (lv_at hl 5 rfl) ?_
                          refine lv_iload hx hb d_M_times_190 (lv_at hl 3 rfl) ?_
                          refine lv_if_ne (tgt := 199) hx hb d_M_times_192 (by decide) (fun c54 => ?_) (fun c54 => absurd ((nI_eq (a := (nb z.natAbs)) (b := 0) (by omega) (by omega)).mp c54) (by omega))
                          refine lv_aload_n hx hb d_M_times_199 rfl (lv_at hl 5 rfl) ?_
                          refine va_get (D := D) (ci := 10) (v := .int (nI dc)) (C := "ValueTreesModel") (T := T_M) (N := 12) hx hb ht in_M hown hK.1 hM.1 0 rfl rfl 10 (by decide) (ht _ q549) (fun _ h9 => h9) rfl d_M_times_200 ?_
                          refine lv_iload hx hb d_M_times_203 (lv_at hl 1 rfl) ?_
                          refine lv_iadd hx hb d_M_times_205 ?_
                          rw [show (((nI dc) + (nI (nn / 16))) : Int32) = nI (dc + (nn / 16)) from nI_add dc (nn / 16)]
                          refine lv_iconst (v := 1) hx hb d_M_times_206 (by decide) ?_
                          refine lv_iadd hx hb d_M_times_207 ?_
                          rw [show (((nI (dc + (nn / 16))) + 1) : Int32) = nI ((dc + (nn / 16)) + 1) from nI_add (dc + (nn / 16)) 1]
                          refine m_put_dc hx hb ht hown hK hM hS (ht _ q549) ((dc + (nn / 16)) + 1) rfl d_M_times_208 (fun H locs hM hS => ?_)
                          have hM : mAt D dT mm wd lf rt tc ty F sz Wk wz dg ((dc + (nn / 16)) + 1) sh H := hM
                          refine lv_iconst (v := 0) hx hb d_M_times_211 (by decide) ?_
                          refine lv_istore (lv' := [(8, .int 0), (6, .int (nI (nn / 16))), (7, .int (nI (nn % 16))), (5, .int (nI (nb z.natAbs))), (4, .int 1), (0, .ref (mm 0)), (1, .int (nI j)), (2, .int (nI j9)), (3, .int (nI nn))]) hx hb d_M_times_212 hl (by decide) rfl (fun ls hl => ?_)
                          have hsh9 : ∀ q, q < (dc + (nn / 16)) + 1 → sh q = P / 65536 ^ q % 65536 := (fun q h2 => hsh q (Nat.zero_le q) h2)
                          have loop55 : ∀ (n2149 : Nat) (k : Nat), (k ≤ (dc + (nn / 16)) + 1) → (dc + (nn / 16)) + 1 - k < n2149 → ∀ (H : Heap) (locs : List Loc) (eg : Nat → Nat), (∀ q, q < k → eg q = P / 65536 ^ q % 65536) → mAt D dT mm wd lf rt tc ty F sz Wk wz eg ((dc + (nn / 16)) + 1) sh H → va_S (mA mm) s.heap H locs → ∀ (ls : Array Slot), lv_has ls 11 [(8, .int (nI k)), (4, .int 1), (0, .ref (mm 0)), (1, .int (nI j)), (2, .int (nI j9))] → W p l e (headSpec w_M_times ({ frames := 4, cells := 0, slots := 0, locals := 90 })).room s m [.ref (mm 0), .int (nI j), .int (nI j9), .int (nI nn)].toArray below meth c H locs 0 0 (MQ below (z_Q (mA mm) (fun v H1 => v = some (.int (kp RV (nI j) (o_times RV (nI j9) (nI nn))).1) ∧ mI D dT mm tb tc (kp RV (nI j) (o_times RV (nI j9) (nI nn))).2 H1)) [.ref (mm 0), .int (nI j), .int (nI j9), .int (nI nn)].toArray s 0 0 (mA mm)) (F0 m 214 ls []) := by
                            intro n2149
                            induction n2149 with
                            | zero =>
                              intro k hk h2149
                              exact absurd h2149 (Nat.not_lt_zero _)
                            | succ n2149 ih214 =>
                              intro k hk h2149 H locs eg heg hM hS ls hl
                              refine lv_iload hx hb d_M_times_214 (lv_at hl 0 rfl) ?_
                              refine lv_aload_n hx hb d_M_times_216 rfl (lv_at hl 2 rfl) ?_
                              refine va_get (D := D) (ci := 10) (v := .int (nI ((dc + (nn / 16)) + 1))) (C := "ValueTreesModel") (T := T_M) (N := 12) hx hb ht in_M hown hK.1 hM.1 0 rfl rfl 10 (by decide) (ht _ q549) (fun _ h9 => h9) rfl d_M_times_217 ?_
                              refine lv_icmp_ge (tgt := 243) hx hb d_M_times_220 (by decide) (fun c56 => ?_) (fun c56 => ?_)
                              · have nc56 : ((dc + (nn / 16)) + 1) ≤ k := (nI_leI (a := ((dc + (nn / 16)) + 1)) (b := k) (by omega) (by omega)).mp c56
                                have e9 : k = (dc + (nn / 16)) + 1 := by omega
                                have hPK : P < 65536 ^ ((dc + (nn / 16)) + 1) := by rw [hP, p65]; have h9 := dval_lt hdx; rw [hvx] at h9; exact Nat.lt_of_lt_of_le (Nat.mul_lt_mul_of_pos_right h9 (Nat.two_pow_pos nn)) (by rw [← Nat.pow_add]; exact Nat.pow_le_pow_right (by decide) (by omega))
                                have hd : ∀ q, q < (dc + (nn / 16)) + 1 → eg q < 65536 := fun q hq => by rw [heg q (by omega)]; exact Nat.mod_lt _ (by decide)
                                have hdc : (dc + (nn / 16)) + 1 ≤ 140 := by omega
                                have hdP : dval eg ((dc + (nn / 16)) + 1) = P := by rw [dig_dval (fun q hq => heg q (by omega)), Nat.mod_eq_of_lt hPK]
                                refine lv_aload_n hx hb d_M_times_243 rfl (lv_at hl 2 rfl) ?_
                                refine z_callQ (va_runV (C := "ValueTreesModel") (As := []) (rest := []) ⟨hx, hb, hml, hown, hts⟩ (c_M_trim l D dT _ mm wd lf rt tc ty F sz Wk wz eg ((dc + (nn / 16)) + 1) sh hM hdc hd) ⟨callB_of 0 hts (gI gd_up gd_c q678) rfl rfl rfl (ht _ q10) (ht _ q675) hd_M_trim ⟨Nat.le_of_ble_eq_true rfl, Nat.le_of_ble_eq_true rfl⟩, ht _ q677, ht _ qs31⟩ (z_preV hK (va_recv hK.1 hM.1 (ci := 10) (q0 := 0) rfl rfl)) rfl rfl hl.1 rfl (lv_room (Nat.le_of_ble_eq_true rfl)) d_M_times_244 ⟨Nat.le_refl _, Nat.le_refl _⟩) hS (fun _ h9 => h9) (fun v58 H locs hv57 hz59 hf60 hS => ?_)
                                obtain ⟨rfl, ec, hec, hval8, htr, hM⟩ := hv57
                                refine W.eq (g2 := F0 m 247 ls []) rfl ?_
                                obtain ⟨hts1, hts2⟩ := times_sgn (z := z) (n := nn)
                                have hdv2 : dval eg ec = (z * 2 ^ nn).natAbs := by rw [hval8, hdP, hts2, hP]
                                have hzz : (z * 2 ^ nn).natAbs < 2 ^ 1024 := by rw [hts2]; exact hPl
                                have hz0 : z * 2 ^ nn < 0 := hts1.mpr hzx
                                refine lv_aload_n hx hb d_M_times_247 rfl (lv_at hl 2 rfl) ?_
                                refine lv_iconst (v := 0) hx hb d_M_times_248 (by decide) ?_
                                refine m_put_wz hx hb ht hown hK hM hS (ht _ q547) 0 rfl d_M_times_249 (fun H locs hM hS => ?_)
                                have hM : mAt D dT mm wd lf rt tc ty F sz Wk 0 eg ec sh H := hM
                                have hW : wAt Wk ([] : List Nat) := wAt_nil hWk
                                have hM : mAt D dT mm wd lf rt tc ty F sz Wk (([] : List Nat).length) eg ec sh H := hM
                                refine lv_aload_n hx hb d_M_times_252 rfl (lv_at hl 2 rfl) ?_
                                refine lv_iload hx hb d_M_times_253 (lv_at hl 1 rfl) ?_
                                refine W.eq (g2 := F0 m 255 ls [.int (if z * 2 ^ nn < 0 then 1 else 0), .ref (mm 0)]) (by rw [if_pos hz0]) ?_
                                refine z_callQ (va_runV (C := "ValueTreesModel") (As := [.int (if z * 2 ^ nn < 0 then 1 else 0)]) (rest := []) ⟨hx, hb, hml, hown, hts⟩ (c_M_putNumber l D dT _ mm wd lf rt tc ty F sz Wk ([] : List Nat) eg ec sh hM hW (fun q hq => hd q (by omega)) (by omega) (z * 2 ^ nn) hzz hdv2 htr (by decide)) ⟨callB_of 1 hts (gI gd_up gd_c q627) rfl rfl rfl (ht _ q10) (ht _ q624) hd_M_putNumber ⟨Nat.le_of_ble_eq_true rfl, Nat.le_of_ble_eq_true rfl⟩, ht _ q626, ht _ qs20⟩ (z_preV hK (va_recv hK.1 hM.1 (ci := 10) (q0 := 0) rfl rfl)) rfl rfl hl.1 rfl (lv_room (Nat.le_of_ble_eq_true rfl)) d_M_times_255 ⟨Nat.le_refl _, Nat.le_refl _⟩) hS (fun _ h9 => h9) (fun v62 H locs hv61 hz63 hf64 hS => ?_)
                                obtain ⟨rfl, Wk, hW, hM⟩ := hv61
                                refine W.eq (g2 := F0 m 258 ls []) rfl ?_
                                refine lv_aload_n hx hb d_M_times_258 rfl (lv_at hl 2 rfl) ?_
                                refine lv_iload_n hx hb d_M_times_259 rfl (lv_at hl 3 rfl) ?_
                                refine lv_aload_n hx hb d_M_times_260 rfl (lv_at hl 2 rfl) ?_
                                refine va_get (D := D) (ci := 10) (v := .ref (mm 4)) (C := "ValueTreesModel") (T := T_M) (N := 12) hx hb ht in_M hown hK.1 hM.1 0 rfl rfl 4 (by decide) (ht _ q543) (fun _ h9 => h9) rfl d_M_times_261 ?_
                                refine lv_iload_n hx hb d_M_times_264 rfl (lv_at hl 4 rfl) ?_
                                refine z_iald hx hb hK (hM.1 4 _ rfl) j9 rfl (by omega) (by decide) d_M_times_265 ?_
                                rw [et8]
                                have hnn0 : (tW (tb (vty v8)) = 3 ∨ tW (tb (vty v8)) = 4) → 0 ≤ z * 2 ^ nn := fun h9 => by
                                  have h8 := hw8
                                  rw [ev] at h8
                                  have h7 := h8.2.2.2.2.2.1 (by simpa [vty] using h9)
                                  exact Int.not_lt.mp (fun h6 => absurd (hts1.mp h6) (by omega))
                                have ebs : ([] : List Nat) ++ (0 :: nser (z * 2 ^ nn)) = cs (.pow (.num (z * 2 ^ nn)) (vty v8)) := rfl
                                rw [ebs] at hW hM
                                refine z_callQ (va_runV (C := "ValueTreesModel") (As := [.int (nI j), .int (nI (vty v8))]) (rest := []) ⟨hx, hb, hml, hown, hts⟩ (c_M_keep l D dT _ mm wd lf rt tc ty F sz Wk (cs (.pow (.num (z * 2 ^ nn)) (vty v8))) eg ec sh hM hW j (vty v8) hj (by rw [← ebs]; have h9 := nser_len (z * 2 ^ nn); have h8 := nb_lt.mpr hzz; simp only [List.length_append, List.length_cons, List.length_nil, size4_len]; omega)) ⟨callB_of 2 hts (gI gd_up gd_c q647) rfl rfl rfl (ht _ q10) (ht _ q644) hd_M_keep ⟨Nat.le_of_ble_eq_true rfl, Nat.le_of_ble_eq_true rfl⟩, ht _ q646, ht _ qs25⟩ (z_preV hK (va_recv hK.1 hM.1 (ci := 10) (q0 := 0) rfl rfl)) rfl rfl hl.1 rfl (lv_room (Nat.le_of_ble_eq_true rfl)) d_M_times_266 ⟨Nat.le_refl _, Nat.le_refl _⟩) hS (fun _ h9 => h9) (fun v66 H locs hv65 hz67 hf68 hS => ?_)
                                rcases hv65 with ⟨hk1, rfl, hM⟩ | ⟨hk1, rfl, hM⟩
                                · refine W.eq (g2 := F0 m 269 ls [.int (-2)]) rfl ?_
                                  refine z_iretQ hx hb hr hlocks d_M_times_269 hS (Nat.le_refl _) (Nat.le_refl _) ?_
                                  have eo := show o_times RV (nI j9) (nI nn) = some (.pow (.num (z * 2 ^ nn)) (vty v8)) from (by rw [ti_ev hj9 hV8 ev hn9]; exact if_pos hlim)
                                  rw [eo]
                                  exact kO_done ⟨_, _, _, _, _, hW.1, Or.inl ⟨hk1, rfl, hM⟩⟩ hO hT hR hj ht8 ⟨rfl, rfl, rfl, hword, hzz, hnn0, fun h9 => by rw [hts2]; exact hw63 h9⟩
                                · refine W.eq (g2 := F0 m 269 ls [.int (nI (cs (.pow (.num (z * 2 ^ nn)) (vty v8))).length)]) rfl ?_
                                  refine z_iretQ hx hb hr hlocks d_M_times_269 hS (Nat.le_refl _) (Nat.le_refl _) ?_
                                  have eo := show o_times RV (nI j9) (nI nn) = some (.pow (.num (z * 2 ^ nn)) (vty v8)) from (by rw [ti_ev hj9 hV8 ev hn9]; exact if_pos hlim)
                                  rw [eo]
                                  exact kO_done ⟨_, _, _, _, _, hW.1, Or.inr ⟨hk1, rfl, hM⟩⟩ hO hT hR hj ht8 ⟨rfl, rfl, rfl, hword, hzz, hnn0, fun h9 => by rw [hts2]; exact hw63 h9⟩
                              · have nc56 : ¬ ((dc + (nn / 16)) + 1) ≤ k := fun h9 => c56 ((nI_leI (a := ((dc + (nn / 16)) + 1)) (b := k) (by omega) (by omega)).mpr h9)
                                refine lv_aload_n hx hb d_M_times_223 rfl (lv_at hl 2 rfl) ?_
                                refine va_get (D := D) (ci := 10) (v := .ref (mm 8)) (C := "ValueTreesModel") (T := T_M) (N := 12) hx hb ht in_M hown hK.1 hM.1 0 rfl rfl 9 (by decide) (ht _ q548) (fun _ h9 => h9) rfl d_M_times_224 ?_
                                refine lv_iload hx hb d_M_times_227 (lv_at hl 0 rfl) ?_
                                refine lv_aload_n hx hb d_M_times_229 rfl (lv_at hl 2 rfl) ?_
                                refine va_get (D := D) (ci := 10) (v := .ref (mm 9)) (C := "ValueTreesModel") (T := T_M) (N := 12) hx hb ht in_M hown hK.1 hM.1 0 rfl rfl 11 (by decide) (ht _ q550) (fun _ h9 => h9) rfl d_M_times_230 ?_
                                refine lv_iload hx hb d_M_times_233 (lv_at hl 0 rfl) ?_
                                refine z_iald hx hb hK (hM.1 9 _ rfl) k rfl (by omega) (by decide) d_M_times_235 ?_
                                refine m_ast_dg hx hb hK hM hS k rfl (by omega) (sh k) rfl d_M_times_236 (fun H locs hM hS => ?_)
                                have hM : mAt D dT mm wd lf rt tc ty F sz Wk wz (updN eg k (sh k)) ((dc + (nn / 16)) + 1) sh H := hM
                                refine lv_iinc (v := (nI (k + 1))) (lv' := [(8, .int (nI (k + 1))), (4, .int 1), (0, .ref (mm 0)), (1, .int (nI j)), (2, .int (nI j9))]) hx hb d_M_times_237 hl (k := 0) rfl (nI_1 k) (by decide) rfl (fun ls hl => ?_)
                                refine lv_goto (tgt := 214) hx hb d_M_times_240 (by decide) ?_
                                exact ih214 (k + 1) (by omega) (by omega) _ _ _ (lt_s (fun q hq => by rw [updN_n (by omega)]; exact heg q hq) (by rw [updN_s]; exact hsh9 k (by omega))) hM hS ls (lv_sub hl [0, 1, 2, 3, 4] rfl)
                          exact loop55 ((dc + (nn / 16)) + 1 + 1) 0 (by omega) (by omega) _ _ dg (fun q hq => absurd hq (Nat.not_lt_zero q)) hM hS ls (lv_sub hl [0, 4, 5, 6, 7] rfl)
                        | succ i =>
                          rw [nI_pred] at hl
                          refine lv_iload hx hb d_M_times_108 (lv_at hl 0 rfl) ?_
                          refine lv_if_lt (tgt := 189) hx hb d_M_times_110 (by decide) (fun c69 => absurd c69 (nI_pos (by omega))) (fun c69 => ?_)
                          refine lv_iload hx hb d_M_times_113 (lv_at hl 0 rfl) ?_
                          refine lv_iload hx hb d_M_times_115 (lv_at hl 1 rfl) ?_
                          refine lv_icmp_lt (tgt := 132) hx hb d_M_times_117 (by decide) (fun c70 => ?_) (fun c70 => ?_)
                          · have nc70 : i < (nn / 16) := (nI_ltI (a := i) (b := (nn / 16)) (by omega) (by omega)).mp c70
                            refine lv_iconst (v := 0) hx hb d_M_times_132 (by decide) ?_
                            refine lv_istore (lv' := [(9, .int 0), (8, .int (nI i)), (6, .int (nI (nn / 16))), (7, .int (nI (nn % 16))), (5, .int (nI (nb z.natAbs))), (4, .int 1), (0, .ref (mm 0)), (1, .int (nI j)), (2, .int (nI j9)), (3, .int (nI nn))]) hx hb d_M_times_133 hl (by decide) rfl (fun ls hl => ?_)
                            refine lv_iload hx hb d_M_times_135 (lv_at hl 1 rfl) ?_
                            refine lv_iload hx hb d_M_times_137 (lv_at hl 2 rfl) ?_
                            refine lv_icmp_le (tgt := 156) hx hb d_M_times_139 (by decide) (fun c71 => ?_) (fun c71 => ?_)
                            · have nc71 : i ≤ (nn / 16) := (nI_leI (a := i) (b := (nn / 16)) (by omega) (by omega)).mp c71
                              refine lv_iconst (v := 0) hx hb d_M_times_156 (by decide) ?_
                              refine lv_istore (lv' := [(10, .int 0), (9, .int 0), (8, .int (nI i)), (6, .int (nI (nn / 16))), (7, .int (nI (nn % 16))), (5, .int (nI (nb z.natAbs))), (4, .int 1), (0, .ref (mm 0)), (1, .int (nI j)), (2, .int (nI j9)), (3, .int (nI nn))]) hx hb d_M_times_157 hl (by decide) rfl (fun ls hl => ?_)
                              refine lv_aload_n hx hb d_M_times_159 rfl (lv_at hl 7 rfl) ?_
                              refine va_get (D := D) (ci := 10) (v := .ref (mm 9)) (C := "ValueTreesModel") (T := T_M) (N := 12) hx hb ht in_M hown hK.1 hM.1 0 rfl rfl 11 (by decide) (ht _ q550) (fun _ h9 => h9) rfl d_M_times_160 ?_
                              refine lv_iload hx hb d_M_times_163 (lv_at hl 2 rfl) ?_
                              refine lv_iload hx hb d_M_times_165 (lv_at hl 1 rfl) ?_
                              refine lv_iload hx hb d_M_times_167 (lv_at hl 4 rfl) ?_
                              refine lv_ishl hx hb d_M_times_169 ?_
                              rw [show ((0 <<< ((nI (nn % 16)) &&& 31)) : Int32) = nI (0 * 2 ^ (nn % 16)) from nI_shlr (n := 0) (r := nn % 16) (by omega) (Nat.lt_trans (hi_lt (by omega) (by omega)) (by decide))]
                              refine lv_iload hx hb d_M_times_170 (lv_at hl 0 rfl) ?_
                              refine lv_bipush (v := 16) hx hb d_M_times_172 (by decide) ?_
                              refine lv_iload hx hb d_M_times_174 (lv_at hl 4 rfl) ?_
                              refine lv_isub hx hb d_M_times_176 ?_
                              rw [show ((16 - (nI (nn % 16))) : Int32) = nI (16 - (nn % 16)) from pk_sub (a := 16) (b := (nn % 16)) (by omega)]
                              refine lv_ishr hx hb d_M_times_177 ?_
                              rw [show ((0 >>> ((nI (16 - (nn % 16))) &&& 31)) : Int32) = nI (0 / 2 ^ (16 - nn % 16)) from nI_shr (n := 0) (r := 16 - nn % 16) (by omega) (by omega)]
                              refine lv_ior hx hb d_M_times_178 ?_
                              rw [show (((nI (0 * 2 ^ (nn % 16))) ||| (nI (0 / 2 ^ (16 - nn % 16)))) : Int32) = nI (0 * 2 ^ (nn % 16) + 0 / 2 ^ (16 - nn % 16)) from nI_or_r (lo_lt (by omega) (by omega))]
                              refine lv_ldc (v := 65535) hx hb hown (hts (.constant "ValueTreesModel" 130 65535) (by decide +kernel)) d_M_times_179 ?_
                              refine lv_iand hx hb d_M_times_181 ?_
                              rw [show (((nI (0 * 2 ^ (nn % 16) + 0 / 2 ^ (16 - nn % 16))) &&& 65535) : Int32) = nI ((0 * 2 ^ (nn % 16) + 0 / 2 ^ (16 - nn % 16)) % 65536) from nI_and65535 (by have h9 := hi_lt (x := 0) (r := nn % 16) (by omega) (by omega); have h8 := lo_lt (x := 0) (r := nn % 16) (by omega) (by omega); have h7 : 2 ^ (nn % 16) ≤ 2 ^ 15 := Nat.pow_le_pow_right (by decide) (by omega); omega)]
                              have hnew : (0 * 2 ^ (nn % 16) + 0 / 2 ^ (16 - nn % 16)) % 65536 = P / 65536 ^ i % 65536 := by
                                rw [hP, shl_0 (by omega), Nat.zero_mul, Nat.zero_div]
                              refine m_ast_sh hx hb hK hM hS i rfl (by omega) ((0 * 2 ^ (nn % 16) + 0 / 2 ^ (16 - nn % 16)) % 65536) rfl d_M_times_182 (fun H locs hM hS => ?_)
                              have hM : mAt D dT mm wd lf rt tc ty F sz Wk wz dg dc (updN sh i ((0 * 2 ^ (nn % 16) + 0 / 2 ^ (16 - nn % 16)) % 65536)) H := hM
                              refine lv_iinc (v := (nI i - 1)) (lv' := [(8, .int (nI i - 1)), (10, .int 0), (9, .int 0), (6, .int (nI (nn / 16))), (7, .int (nI (nn % 16))), (5, .int (nI (nb z.natAbs))), (4, .int 1), (0, .ref (mm 0)), (1, .int (nI j)), (2, .int (nI j9)), (3, .int (nI nn))]) hx hb d_M_times_183 hl (k := 2) rfl (by rw [Int32.sub_eq_add_neg]; rfl) (by decide) rfl (fun ls hl => ?_)
                              refine lv_goto (tgt := 108) hx hb d_M_times_186 (by decide) ?_
                              exact ih108 i (by omega) (by omega) _ _ _ (fun q h1 h2 => by rcases Nat.eq_or_lt_of_le h1 with e | e <;> first | (subst e; rw [updN_s]; exact hnew) | (rw [updN_n (by omega)]; exact hsh q e h2)) hM hS ls (lv_sub hl [0, 3, 4, 5, 6, 7, 8, 9, 10] rfl)
                            · have nc71 : ¬ i ≤ (nn / 16) := fun h9 => c71 ((nI_leI (a := i) (b := (nn / 16)) (by omega) (by omega)).mpr h9)
                              refine lv_aload_n hx hb d_M_times_142 rfl (lv_at hl 6 rfl) ?_
                              refine lv_iload hx hb d_M_times_143 (lv_at hl 1 rfl) ?_
                              refine lv_iload hx hb d_M_times_145 (lv_at hl 2 rfl) ?_
                              refine lv_isub hx hb d_M_times_147 ?_
                              rw [show (((nI i) - (nI (nn / 16))) : Int32) = nI (i - (nn / 16)) from pk_sub (a := i) (b := (nn / 16)) (by omega)]
                              refine lv_iconst (v := 1) hx hb d_M_times_148 (by decide) ?_
                              refine lv_isub hx hb d_M_times_149 ?_
                              rw [show (((nI (i - (nn / 16))) - 1) : Int32) = nI ((i - (nn / 16)) - 1) from pk_sub (a := (i - (nn / 16))) (b := 1) (by omega)]
                              refine z_callR (va_runV (C := "ValueTreesModel") (As := [.int (nI ((i - (nn / 16)) - 1))]) (rest := []) ⟨hx, hb, hml, hown, hts⟩ (c_M_digitAt l D dT _ mm wd lf rt tc ty F sz Wk wz dg dc sh hM ((i - (nn / 16)) - 1) (by omega) hdc) ⟨callB_of 1 hts (gI gd_up gd_c q643) rfl rfl rfl (ht _ q10) (ht _ q640) hd_M_digitAt ⟨Nat.le_of_ble_eq_true rfl, Nat.le_of_ble_eq_true rfl⟩, ht _ q642, ht _ qs24⟩ (z_preV hK (va_recv hK.1 hM.1 (ci := 10) (q0 := 0) rfl rfl)) rfl rfl hl.1 rfl (lv_room (Nat.le_of_ble_eq_true rfl)) d_M_times_150 ⟨Nat.zero_le _, Nat.zero_le _⟩) (fun v73 hv72 => ?_)
                              obtain ⟨g74, hg74⟩ : ∃ y, y = (if (i - (nn / 16)) - 1 < dc then dg ((i - (nn / 16)) - 1) else 0) := ⟨_, rfl⟩
                              have hv72 : v73 = .int (nI g74) := by rw [hg74]; exact hv72
                              subst hv72
                              have hg74l : g74 < 65536 := by rw [hg74]; exact dgat hd _
                              have hg74d : g74 = z.natAbs / 2 ^ (16 * ((i - (nn / 16)) - 1)) % 65536 := by rw [hg74, digit_of hd, hdv]
                              refine lv_goto (tgt := 157) hx hb d_M_times_153 (by decide) ?_
                              refine lv_istore (lv' := [(10, .int (nI g74)), (9, .int 0), (8, .int (nI i)), (6, .int (nI (nn / 16))), (7, .int (nI (nn % 16))), (5, .int (nI (nb z.natAbs))), (4, .int 1), (0, .ref (mm 0)), (1, .int (nI j)), (2, .int (nI j9)), (3, .int (nI nn))]) hx hb d_M_times_157 hl (by decide) rfl (fun ls hl => ?_)
                              refine lv_aload_n hx hb d_M_times_159 rfl (lv_at hl 7 rfl) ?_
                              refine va_get (D := D) (ci := 10) (v := .ref (mm 9)) (C := "ValueTreesModel") (T := T_M) (N := 12) hx hb ht in_M hown hK.1 hM.1 0 rfl rfl 11 (by decide) (ht _ q550) (fun _ h9 => h9) rfl d_M_times_160 ?_
                              refine lv_iload hx hb d_M_times_163 (lv_at hl 2 rfl) ?_
                              refine lv_iload hx hb d_M_times_165 (lv_at hl 1 rfl) ?_
                              refine lv_iload hx hb d_M_times_167 (lv_at hl 4 rfl) ?_
                              refine lv_ishl hx hb d_M_times_169 ?_
                              rw [show ((0 <<< ((nI (nn % 16)) &&& 31)) : Int32) = nI (0 * 2 ^ (nn % 16)) from nI_shlr (n := 0) (r := nn % 16) (by omega) (Nat.lt_trans (hi_lt (by omega) (by omega)) (by decide))]
                              refine lv_iload hx hb d_M_times_170 (lv_at hl 0 rfl) ?_
                              refine lv_bipush (v := 16) hx hb d_M_times_172 (by decide) ?_
                              refine lv_iload hx hb d_M_times_174 (lv_at hl 4 rfl) ?_
                              refine lv_isub hx hb d_M_times_176 ?_
                              rw [show ((16 - (nI (nn % 16))) : Int32) = nI (16 - (nn % 16)) from pk_sub (a := 16) (b := (nn % 16)) (by omega)]
                              refine lv_ishr hx hb d_M_times_177 ?_
                              rw [show (((nI g74) >>> ((nI (16 - (nn % 16))) &&& 31)) : Int32) = nI (g74 / 2 ^ (16 - nn % 16)) from nI_shr (n := g74) (r := 16 - nn % 16) (by omega) (by omega)]
                              refine lv_ior hx hb d_M_times_178 ?_
                              rw [show (((nI (0 * 2 ^ (nn % 16))) ||| (nI (g74 / 2 ^ (16 - nn % 16)))) : Int32) = nI (0 * 2 ^ (nn % 16) + g74 / 2 ^ (16 - nn % 16)) from nI_or_r (lo_lt (by omega) (by omega))]
                              refine lv_ldc (v := 65535) hx hb hown (hts (.constant "ValueTreesModel" 130 65535) (by decide +kernel)) d_M_times_179 ?_
                              refine lv_iand hx hb d_M_times_181 ?_
                              rw [show (((nI (0 * 2 ^ (nn % 16) + g74 / 2 ^ (16 - nn % 16))) &&& 65535) : Int32) = nI ((0 * 2 ^ (nn % 16) + g74 / 2 ^ (16 - nn % 16)) % 65536) from nI_and65535 (by have h9 := hi_lt (x := 0) (r := nn % 16) (by omega) (by omega); have h8 := lo_lt (x := g74) (r := nn % 16) (by omega) (by omega); have h7 : 2 ^ (nn % 16) ≤ 2 ^ 15 := Nat.pow_le_pow_right (by decide) (by omega); omega)]
                              have hnew : (0 * 2 ^ (nn % 16) + g74 / 2 ^ (16 - nn % 16)) % 65536 = P / 65536 ^ i % 65536 := by
                                exfalso; omega
                              refine m_ast_sh hx hb hK hM hS i rfl (by omega) ((0 * 2 ^ (nn % 16) + g74 / 2 ^ (16 - nn % 16)) % 65536) rfl d_M_times_182 (fun H locs hM hS => ?_)
                              have hM : mAt D dT mm wd lf rt tc ty F sz Wk wz dg dc (updN sh i ((0 * 2 ^ (nn % 16) + g74 / 2 ^ (16 - nn % 16)) % 65536)) H := hM
                              refine lv_iinc (v := (nI i - 1)) (lv' := [(8, .int (nI i - 1)), (10, .int (nI g74)), (9, .int 0), (6, .int (nI (nn / 16))), (7, .int (nI (nn % 16))), (5, .int (nI (nb z.natAbs))), (4, .int 1), (0, .ref (mm 0)), (1, .int (nI j)), (2, .int (nI j9)), (3, .int (nI nn))]) hx hb d_M_times_183 hl (k := 2) rfl (by rw [Int32.sub_eq_add_neg]; rfl) (by decide) rfl (fun ls hl => ?_)
                              refine lv_goto (tgt := 108) hx hb d_M_times_186 (by decide) ?_
                              exact ih108 i (by omega) (by omega) _ _ _ (fun q h1 h2 => by rcases Nat.eq_or_lt_of_le h1 with e | e <;> first | (subst e; rw [updN_s]; exact hnew) | (rw [updN_n (by omega)]; exact hsh q e h2)) hM hS ls (lv_sub hl [0, 3, 4, 5, 6, 7, 8, 9, 10] rfl)
                          · have nc70 : ¬ i < (nn / 16) := fun h9 => c70 ((nI_ltI (a := i) (b := (nn / 16)) (by omega) (by omega)).mpr h9)
                            refine lv_aload_n hx hb d_M_times_120 rfl (lv_at hl 5 rfl) ?_
                            refine lv_iload hx hb d_M_times_121 (lv_at hl 0 rfl) ?_
                            refine lv_iload hx hb d_M_times_123 (lv_at hl 1 rfl) ?_
                            refine lv_isub hx hb d_M_times_125 ?_
                            rw [show (((nI i) - (nI (nn / 16))) : Int32) = nI (i - (nn / 16)) from pk_sub (a := i) (b := (nn / 16)) (by omega)]
                            refine z_callR (va_runV (C := "ValueTreesModel") (As := [.int (nI (i - (nn / 16)))]) (rest := []) ⟨hx, hb, hml, hown, hts⟩ (c_M_digitAt l D dT _ mm wd lf rt tc ty F sz Wk wz dg dc sh hM (i - (nn / 16)) (by omega) hdc) ⟨callB_of 1 hts (gI gd_up gd_c q643) rfl rfl rfl (ht _ q10) (ht _ q640) hd_M_digitAt ⟨Nat.le_of_ble_eq_true rfl, Nat.le_of_ble_eq_true rfl⟩, ht _ q642, ht _ qs24⟩ (z_preV hK (va_recv hK.1 hM.1 (ci := 10) (q0 := 0) rfl rfl)) rfl rfl hl.1 rfl (lv_room (Nat.le_of_ble_eq_true rfl)) d_M_times_126 ⟨Nat.zero_le _, Nat.zero_le _⟩) (fun v76 hv75 => ?_)
                            obtain ⟨g77, hg77⟩ : ∃ y, y = (if i - (nn / 16) < dc then dg (i - (nn / 16)) else 0) := ⟨_, rfl⟩
                            have hv75 : v76 = .int (nI g77) := by rw [hg77]; exact hv75
                            subst hv75
                            have hg77l : g77 < 65536 := by rw [hg77]; exact dgat hd _
                            have hg77d : g77 = z.natAbs / 2 ^ (16 * (i - (nn / 16))) % 65536 := by rw [hg77, digit_of hd, hdv]
                            refine lv_goto (tgt := 133) hx hb d_M_times_129 (by decide) ?_
                            refine lv_istore (lv' := [(9, .int (nI g77)), (8, .int (nI i)), (6, .int (nI (nn / 16))), (7, .int (nI (nn % 16))), (5, .int (nI (nb z.natAbs))), (4, .int 1), (0, .ref (mm 0)), (1, .int (nI j)), (2, .int (nI j9)), (3, .int (nI nn))]) hx hb d_M_times_133 hl (by decide) rfl (fun ls hl => ?_)
                            refine lv_iload hx hb d_M_times_135 (lv_at hl 1 rfl) ?_
                            refine lv_iload hx hb d_M_times_137 (lv_at hl 2 rfl) ?_
                            refine lv_icmp_le (tgt := 156) hx hb d_M_times_139 (by decide) (fun c78 => ?_) (fun c78 => ?_)
                            · have nc78 : i ≤ (nn / 16) := (nI_leI (a := i) (b := (nn / 16)) (by omega) (by omega)).mp c78
                              refine lv_iconst (v := 0) hx hb d_M_times_156 (by decide) ?_
                              refine lv_istore (lv' := [(10, .int 0), (9, .int (nI g77)), (8, .int (nI i)), (6, .int (nI (nn / 16))), (7, .int (nI (nn % 16))), (5, .int (nI (nb z.natAbs))), (4, .int 1), (0, .ref (mm 0)), (1, .int (nI j)), (2, .int (nI j9)), (3, .int (nI nn))]) hx hb d_M_times_157 hl (by decide) rfl (fun ls hl => ?_)
                              refine lv_aload_n hx hb d_M_times_159 rfl (lv_at hl 7 rfl) ?_
                              refine va_get (D := D) (ci := 10) (v := .ref (mm 9)) (C := "ValueTreesModel") (T := T_M) (N := 12) hx hb ht in_M hown hK.1 hM.1 0 rfl rfl 11 (by decide) (ht _ q550) (fun _ h9 => h9) rfl d_M_times_160 ?_
                              refine lv_iload hx hb d_M_times_163 (lv_at hl 2 rfl) ?_
                              refine lv_iload hx hb d_M_times_165 (lv_at hl 1 rfl) ?_
                              refine lv_iload hx hb d_M_times_167 (lv_at hl 4 rfl) ?_
                              refine lv_ishl hx hb d_M_times_169 ?_
                              rw [show (((nI g77) <<< ((nI (nn % 16)) &&& 31)) : Int32) = nI (g77 * 2 ^ (nn % 16)) from nI_shlr (n := g77) (r := nn % 16) (by omega) (Nat.lt_trans (hi_lt (by omega) (by omega)) (by decide))]
                              refine lv_iload hx hb d_M_times_170 (lv_at hl 0 rfl) ?_
                              refine lv_bipush (v := 16) hx hb d_M_times_172 (by decide) ?_
                              refine lv_iload hx hb d_M_times_174 (lv_at hl 4 rfl) ?_
                              refine lv_isub hx hb d_M_times_176 ?_
                              rw [show ((16 - (nI (nn % 16))) : Int32) = nI (16 - (nn % 16)) from pk_sub (a := 16) (b := (nn % 16)) (by omega)]
                              refine lv_ishr hx hb d_M_times_177 ?_
                              rw [show ((0 >>> ((nI (16 - (nn % 16))) &&& 31)) : Int32) = nI (0 / 2 ^ (16 - nn % 16)) from nI_shr (n := 0) (r := 16 - nn % 16) (by omega) (by omega)]
                              refine lv_ior hx hb d_M_times_178 ?_
                              rw [show (((nI (g77 * 2 ^ (nn % 16))) ||| (nI (0 / 2 ^ (16 - nn % 16)))) : Int32) = nI (g77 * 2 ^ (nn % 16) + 0 / 2 ^ (16 - nn % 16)) from nI_or_r (lo_lt (by omega) (by omega))]
                              refine lv_ldc (v := 65535) hx hb hown (hts (.constant "ValueTreesModel" 130 65535) (by decide +kernel)) d_M_times_179 ?_
                              refine lv_iand hx hb d_M_times_181 ?_
                              rw [show (((nI (g77 * 2 ^ (nn % 16) + 0 / 2 ^ (16 - nn % 16))) &&& 65535) : Int32) = nI ((g77 * 2 ^ (nn % 16) + 0 / 2 ^ (16 - nn % 16)) % 65536) from nI_and65535 (by have h9 := hi_lt (x := g77) (r := nn % 16) (by omega) (by omega); have h8 := lo_lt (x := 0) (r := nn % 16) (by omega) (by omega); have h7 : 2 ^ (nn % 16) ≤ 2 ^ 15 := Nat.pow_le_pow_right (by decide) (by omega); omega)]
                              have hnew : (g77 * 2 ^ (nn % 16) + 0 / 2 ^ (16 - nn % 16)) % 65536 = P / 65536 ^ i % 65536 := by
                                rw [hP, shl_a (show nn / 16 = i by omega), hg77d, show i - nn / 16 = 0 by omega, Nat.zero_div, Nat.add_zero]
                              refine m_ast_sh hx hb hK hM hS i rfl (by omega) ((g77 * 2 ^ (nn % 16) + 0 / 2 ^ (16 - nn % 16)) % 65536) rfl d_M_times_182 (fun H locs hM hS => ?_)
                              have hM : mAt D dT mm wd lf rt tc ty F sz Wk wz dg dc (updN sh i ((g77 * 2 ^ (nn % 16) + 0 / 2 ^ (16 - nn % 16)) % 65536)) H := hM
                              refine lv_iinc (v := (nI i - 1)) (lv' := [(8, .int (nI i - 1)), (10, .int 0), (9, .int (nI g77)), (6, .int (nI (nn / 16))), (7, .int (nI (nn % 16))), (5, .int (nI (nb z.natAbs))), (4, .int 1), (0, .ref (mm 0)), (1, .int (nI j)), (2, .int (nI j9)), (3, .int (nI nn))]) hx hb d_M_times_183 hl (k := 2) rfl (by rw [Int32.sub_eq_add_neg]; rfl) (by decide) rfl (fun ls hl => ?_)
                              refine lv_goto (tgt := 108) hx hb d_M_times_186 (by decide) ?_
                              exact ih108 i (by omega) (by omega) _ _ _ (fun q h1 h2 => by rcases Nat.eq_or_lt_of_le h1 with e | e <;> first | (subst e; rw [updN_s]; exact hnew) | (rw [updN_n (by omega)]; exact hsh q e h2)) hM hS ls (lv_sub hl [0, 3, 4, 5, 6, 7, 8, 9, 10] rfl)
                            · have nc78 : ¬ i ≤ (nn / 16) := fun h9 => c78 ((nI_leI (a := i) (b := (nn / 16)) (by omega) (by omega)).mpr h9)
                              refine lv_aload_n hx hb d_M_times_142 rfl (lv_at hl 6 rfl) ?_
                              refine lv_iload hx hb d_M_times_143 (lv_at hl 1 rfl) ?_
                              refine lv_iload hx hb d_M_times_145 (lv_at hl 2 rfl) ?_
                              refine lv_isub hx hb d_M_times_147 ?_
                              rw [show (((nI i) - (nI (nn / 16))) : Int32) = nI (i - (nn / 16)) from pk_sub (a := i) (b := (nn / 16)) (by omega)]
                              refine lv_iconst (v := 1) hx hb d_M_times_148 (by decide) ?_
                              refine lv_isub hx hb d_M_times_149 ?_
                              rw [show (((nI (i - (nn / 16))) - 1) : Int32) = nI ((i - (nn / 16)) - 1) from pk_sub (a := (i - (nn / 16))) (b := 1) (by omega)]
                              refine z_callR (va_runV (C := "ValueTreesModel") (As := [.int (nI ((i - (nn / 16)) - 1))]) (rest := []) ⟨hx, hb, hml, hown, hts⟩ (c_M_digitAt l D dT _ mm wd lf rt tc ty F sz Wk wz dg dc sh hM ((i - (nn / 16)) - 1) (by omega) hdc) ⟨callB_of 1 hts (gI gd_up gd_c q643) rfl rfl rfl (ht _ q10) (ht _ q640) hd_M_digitAt ⟨Nat.le_of_ble_eq_true rfl, Nat.le_of_ble_eq_true rfl⟩, ht _ q642, ht _ qs24⟩ (z_preV hK (va_recv hK.1 hM.1 (ci := 10) (q0 := 0) rfl rfl)) rfl rfl hl.1 rfl (lv_room (Nat.le_of_ble_eq_true rfl)) d_M_times_150 ⟨Nat.zero_le _, Nat.zero_le _⟩) (fun v80 hv79 => ?_)
                              obtain ⟨g81, hg81⟩ : ∃ y, y = (if (i - (nn / 16)) - 1 < dc then dg ((i - (nn / 16)) - 1) else 0) := ⟨_, rfl⟩
                              have hv79 : v80 = .int (nI g81) := by rw [hg81]; exact hv79
                              subst hv79
                              have hg81l : g81 < 65536 := by rw [hg81]; exact dgat hd _
                              have hg81d : g81 = z.natAbs / 2 ^ (16 * ((i - (nn / 16)) - 1)) % 65536 := by rw [hg81, digit_of hd, hdv]
                              refine lv_goto (tgt := 157) hx hb d_M_times_153 (by decide) ?_
                              refine lv_istore (lv' := [(10, .int (nI g81)), (9, .int (nI g77)), (8, .int (nI i)), (6, .int (nI (nn / 16))), (7, .int (nI (nn % 16))), (5, .int (nI (nb z.natAbs))), (4, .int 1), (0, .ref (mm 0)), (1, .int (nI j)), (2, .int (nI j9)), (3, .int (nI nn))]) hx hb d_M_times_157 hl (by decide) rfl (fun ls hl => ?_)
                              refine lv_aload_n hx hb d_M_times_159 rfl (lv_at hl 7 rfl) ?_
                              refine va_get (D := D) (ci := 10) (v := .ref (mm 9)) (C := "ValueTreesModel") (T := T_M) (N := 12) hx hb ht in_M hown hK.1 hM.1 0 rfl rfl 11 (by decide) (ht _ q550) (fun _ h9 => h9) rfl d_M_times_160 ?_
                              refine lv_iload hx hb d_M_times_163 (lv_at hl 2 rfl) ?_
                              refine lv_iload hx hb d_M_times_165 (lv_at hl 1 rfl) ?_
                              refine lv_iload hx hb d_M_times_167 (lv_at hl 4 rfl) ?_
                              refine lv_ishl hx hb d_M_times_169 ?_
                              rw [show (((nI g77) <<< ((nI (nn % 16)) &&& 31)) : Int32) = nI (g77 * 2 ^ (nn % 16)) from nI_shlr (n := g77) (r := nn % 16) (by omega) (Nat.lt_trans (hi_lt (by omega) (by omega)) (by decide))]
                              refine lv_iload hx hb d_M_times_170 (lv_at hl 0 rfl) ?_
                              refine lv_bipush (v := 16) hx hb d_M_times_172 (by decide) ?_
                              refine lv_iload hx hb d_M_times_174 (lv_at hl 4 rfl) ?_
                              refine lv_isub hx hb d_M_times_176 ?_
                              rw [show ((16 - (nI (nn % 16))) : Int32) = nI (16 - (nn % 16)) from pk_sub (a := 16) (b := (nn % 16)) (by omega)]
                              refine lv_ishr hx hb d_M_times_177 ?_
                              rw [show (((nI g81) >>> ((nI (16 - (nn % 16))) &&& 31)) : Int32) = nI (g81 / 2 ^ (16 - nn % 16)) from nI_shr (n := g81) (r := 16 - nn % 16) (by omega) (by omega)]
                              refine lv_ior hx hb d_M_times_178 ?_
                              rw [show (((nI (g77 * 2 ^ (nn % 16))) ||| (nI (g81 / 2 ^ (16 - nn % 16)))) : Int32) = nI (g77 * 2 ^ (nn % 16) + g81 / 2 ^ (16 - nn % 16)) from nI_or_r (lo_lt (by omega) (by omega))]
                              refine lv_ldc (v := 65535) hx hb hown (hts (.constant "ValueTreesModel" 130 65535) (by decide +kernel)) d_M_times_179 ?_
                              refine lv_iand hx hb d_M_times_181 ?_
                              rw [show (((nI (g77 * 2 ^ (nn % 16) + g81 / 2 ^ (16 - nn % 16))) &&& 65535) : Int32) = nI ((g77 * 2 ^ (nn % 16) + g81 / 2 ^ (16 - nn % 16)) % 65536) from nI_and65535 (by have h9 := hi_lt (x := g77) (r := nn % 16) (by omega) (by omega); have h8 := lo_lt (x := g81) (r := nn % 16) (by omega) (by omega); have h7 : 2 ^ (nn % 16) ≤ 2 ^ 15 := Nat.pow_le_pow_right (by decide) (by omega); omega)]
                              have hnew : (g77 * 2 ^ (nn % 16) + g81 / 2 ^ (16 - nn % 16)) % 65536 = P / 65536 ^ i % 65536 := by
                                have e8 : i = nn / 16 + (i - nn / 16 - 1 + 1) := by omega
                                have h8 := shl_b (N := z.natAbs) (n := nn) (q := i - nn / 16 - 1)
                                rw [← e8] at h8
                                rw [hP, h8, hg77d, hg81d, show i - nn / 16 - 1 + 1 = i - nn / 16 by omega]
                              refine m_ast_sh hx hb hK hM hS i rfl (by omega) ((g77 * 2 ^ (nn % 16) + g81 / 2 ^ (16 - nn % 16)) % 65536) rfl d_M_times_182 (fun H locs hM hS => ?_)
                              have hM : mAt D dT mm wd lf rt tc ty F sz Wk wz dg dc (updN sh i ((g77 * 2 ^ (nn % 16) + g81 / 2 ^ (16 - nn % 16)) % 65536)) H := hM
                              refine lv_iinc (v := (nI i - 1)) (lv' := [(8, .int (nI i - 1)), (10, .int (nI g81)), (9, .int (nI g77)), (6, .int (nI (nn / 16))), (7, .int (nI (nn % 16))), (5, .int (nI (nb z.natAbs))), (4, .int 1), (0, .ref (mm 0)), (1, .int (nI j)), (2, .int (nI j9)), (3, .int (nI nn))]) hx hb d_M_times_183 hl (k := 2) rfl (by rw [Int32.sub_eq_add_neg]; rfl) (by decide) rfl (fun ls hl => ?_)
                              refine lv_goto (tgt := 108) hx hb d_M_times_186 (by decide) ?_
                              exact ih108 i (by omega) (by omega) _ _ _ (fun q h1 h2 => by rcases Nat.eq_or_lt_of_le h1 with e | e <;> first | (subst e; rw [updN_s]; exact hnew) | (rw [updN_n (by omega)]; exact hsh q e h2)) hM hS ls (lv_sub hl [0, 3, 4, 5, 6, 7, 8, 9, 10] rfl)
                    exact loop52 (dc + nn / 16 + 2) (dc + nn / 16 + 1) (Nat.le_refl _) (by omega) _ _ sh (fun q h1 h2 => absurd h1 (by omega)) hM hS ls (lv_sub hl [0, 2, 1, 3, 4, 5, 6, 7, 8] rfl)
                  · have nc50 : ¬ ((nb z.natAbs) + nn) ≤ 1024 := fun h9 => c50 ((nI_leI (a := ((nb z.natAbs) + nn)) (b := 1024) (by omega) (by omega)).mpr h9)
                    refine lv_iconst (v := (-1)) hx hb d_M_times_76 (by decide) ?_
                    refine z_iretQ hx hb hr hlocks d_M_times_77 hS (Nat.le_refl _) (Nat.le_refl _) ?_
                    have eo : o_times RV (nI j9) (nI nn) = none := by rw [ti_ev hj9 hV8 ev hn9]; exact if_neg (fun h9 => by rcases h9 with h9 | h9 <;> first | omega | (split at h9 <;> omega))
                    rw [eo]
                    exact ⟨rfl, _, _, _, _, _, _, _, _, _, _, _, hM, hO, hT, hR, hWk⟩
                · have nc49 : (tW (tb (vty v8))) = 4 := (nI_eq (a := (tW (tb (vty v8)))) (b := 4) (by omega) (by omega)).mp c49
                  refine lv_bipush (v := 63) hx hb d_M_times_65 (by decide) ?_
                  refine lv_goto (tgt := 73) hx hb d_M_times_67 (by decide) ?_
                  refine lv_icmp_le (tgt := 78) hx hb d_M_times_73 (by decide) (fun c82 => ?_) (fun c82 => ?_)
                  · have nc82 : ((nb z.natAbs) + nn) ≤ 63 := (nI_leI (a := ((nb z.natAbs) + nn)) (b := 63) (by omega) (by omega)).mp c82
                    have hlim0 : nb z.natAbs + nn ≤ (if vty v8 = 4 then 63 else 1024) := by split <;> omega
                    have hlim : nb z.natAbs = 0 ∨ nb z.natAbs + nn ≤ (if vty v8 = 4 then 63 else 1024) := Or.inr hlim0
                    have hPl : z.natAbs * 2 ^ nn < 2 ^ 1024 := mul_lt2 (by have h9 := hlim0; split at h9 <;> omega)
                    have hw63 : tW (tb (vty v8)) = 4 → z.natAbs * 2 ^ nn < 2 ^ 63 := fun h9 => mul_lt2 (by rw [if_pos (by omega)] at hlim0; exact hlim0)
                    obtain ⟨P, hP⟩ : ∃ y, y = z.natAbs * 2 ^ nn := ⟨_, rfl⟩
                    refine lv_iload_n hx hb d_M_times_78 rfl (lv_at hl 5 rfl) ?_
                    refine lv_bipush (v := 16) hx hb d_M_times_79 (by decide) ?_
                    refine lv_idiv hx hb d_M_times_81 (by decide) ?_
                    rw [show (((nI nn) / 16) : Int32) = nI (nn / 16) from pk_div (a := nn) (d := 16) (by omega) (by decide) (by decide)]
                    refine lv_istore (lv' := [(6, .int (nI (nn / 16))), (5, .int (nI (nb z.natAbs))), (4, .int 1), (0, .ref (mm 0)), (1, .int (nI j)), (2, .int (nI j9)), (3, .int (nI nn))]) hx hb d_M_times_82 hl (by decide) rfl (fun ls hl => ?_)
                    refine lv_iload_n hx hb d_M_times_84 rfl (lv_at hl 6 rfl) ?_
                    refine lv_bipush (v := 16) hx hb d_M_times_85 (by decide) ?_
                    refine lv_irem hx hb d_M_times_87 (by decide) ?_
                    rw [show (((nI nn) - (nI nn) / 16 * 16) : Int32) = nI (nn % 16) from pk_rem (a := nn) (d := 16) (by omega) (by decide) (by decide)]
                    refine lv_istore (lv' := [(7, .int (nI (nn % 16))), (6, .int (nI (nn / 16))), (5, .int (nI (nb z.natAbs))), (4, .int 1), (0, .ref (mm 0)), (1, .int (nI j)), (2, .int (nI j9)), (3, .int (nI nn))]) hx hb d_M_times_88 hl (by decide) rfl (fun ls hl => ?_)
                    refine lv_iload hx hb d_M_times_90 (lv_at hl 2 rfl) ?_
                    refine lv_if_ne (tgt := 99) hx hb d_M_times_92 (by decide) (fun c83 => ?_) (fun c83 => absurd ((nI_eq (a := (nb z.natAbs)) (b := 0) (by omega) (by omega)).mp c83) (by omega))
                    refine lv_aload_n hx hb d_M_times_99 rfl (lv_at hl 4 rfl) ?_
                    refine va_get (D := D) (ci := 10) (v := .int (nI dc)) (C := "ValueTreesModel") (T := T_M) (N := 12) hx hb ht in_M hown hK.1 hM.1 0 rfl rfl 10 (by decide) (ht _ q549) (fun _ h9 => h9) rfl d_M_times_100 ?_
                    refine lv_iload hx hb d_M_times_103 (lv_at hl 1 rfl) ?_
                    refine lv_iadd hx hb d_M_times_105 ?_
                    rw [show (((nI dc) + (nI (nn / 16))) : Int32) = nI (dc + (nn / 16)) from nI_add dc (nn / 16)]
                    refine lv_istore (lv' := [(8, .int (nI (dc + (nn / 16)))), (7, .int (nI (nn % 16))), (6, .int (nI (nn / 16))), (5, .int (nI (nb z.natAbs))), (4, .int 1), (0, .ref (mm 0)), (1, .int (nI j)), (2, .int (nI j9)), (3, .int (nI nn))]) hx hb d_M_times_106 hl (by decide) rfl (fun ls hl => ?_)
                    rw [show nI (dc + nn / 16) = nI (dc + nn / 16 + 1) - 1 from (nI_pred _).symm] at hl
                    have loop84 : ∀ (n1089 : Nat) (i : Nat), (i ≤ dc + nn / 16 + 1) → i < n1089 → ∀ (H : Heap) (locs : List Loc) (sh : Nat → Nat), (∀ q, i ≤ q → q < dc + nn / 16 + 1 → sh q = P / 65536 ^ q % 65536) → mAt D dT mm wd lf rt tc ty F sz Wk wz dg dc sh H → va_S (mA mm) s.heap H locs → ∀ (ls : Array Slot), lv_has ls 11 [(8, .int (nI i - 1)), (6, .int (nI (nn / 16))), (7, .int (nI (nn % 16))), (5, .int (nI (nb z.natAbs))), (4, .int 1), (0, .ref (mm 0)), (1, .int (nI j)), (2, .int (nI j9)), (3, .int (nI nn))] → W p l e (headSpec w_M_times ({ frames := 4, cells := 0, slots := 0, locals := 90 })).room s m [.ref (mm 0), .int (nI j), .int (nI j9), .int (nI nn)].toArray below meth c H locs 0 0 (MQ below (z_Q (mA mm) (fun v H1 => v = some (.int (kp RV (nI j) (o_times RV (nI j9) (nI nn))).1) ∧ mI D dT mm tb tc (kp RV (nI j) (o_times RV (nI j9) (nI nn))).2 H1)) [.ref (mm 0), .int (nI j), .int (nI j9), .int (nI nn)].toArray s 0 0 (mA mm)) (F0 m 108 ls []) := by
                      intro n1089
                      induction n1089 with
                      | zero =>
                        intro i hi h1089
                        exact absurd h1089 (Nat.not_lt_zero _)
                      | succ n1089 ih108 =>
                        intro i hi h1089 H locs sh hsh hM hS ls hl
                        cases i with
                        | zero =>
                          rw [show nI 0 - 1 = (-1 : Int32) by decide] at hl
                          refine lv_iload hx hb d_M_times_108 (lv_at hl 0 rfl) ?_
                          refine lv_if_lt (tgt := 189) hx hb d_M_times_110 (by decide) (fun _ => ?_) (fun c85 => absurd c85 (by decide))
                          refine lv_aload_n hx hb d_M_times_189 rfl (lv_at hl 5 rfl) ?_
                          refine lv_iload hx hb d_M_times_190 (lv_at hl 3 rfl) ?_
                          refine lv_if_ne (tgt := 199) hx hb d_M_times_192 (by decide) (fun c86 => ?_) (fun c86 => absurd ((nI_eq (a := (nb z.natAbs)) (b := 0) (by omega) (by omega)).mp c86) (by omega))
                          refine lv_aload_n hx hb d_M_times_199 rfl (lv_at hl 5 rfl) ?_
                          refine va_get (D := D) (ci := 10) (v := .int (nI dc)) (C := "ValueTreesModel") (T := T_M) (N := 12) hx hb ht in_M hown hK.1 hM.1 0 rfl rfl 10 (by decide) (ht _ q549) (fun _ h9 => h9) rfl d_M_times_200 ?_
                          refine lv_iload hx hb d_M_times_203 (lv_at hl 1 rfl) ?_
                          refine lv_iadd hx hb d_M_times_205 ?_
                          rw [show (((nI dc) + (nI (nn / 16))) : Int32) = nI (dc + (nn / 16)) from nI_add dc (nn / 16)]
                          refine lv_iconst (v := 1) hx hb d_M_times_206 (by decide) ?_
                          refine lv_iadd hx hb d_M_times_207 ?_
                          rw [show (((nI (dc + (nn / 16))) + 1) : Int32) = nI ((dc + (nn / 16)) + 1) from nI_add (dc + (nn / 16)) 1]
                          refine m_put_dc hx hb ht hown hK hM hS (ht _ q549) ((dc + (nn / 16)) + 1) rfl d_M_times_208 (fun H locs hM hS => ?_)
                          have hM : mAt D dT mm wd lf rt tc ty F sz Wk wz dg ((dc + (nn / 16)) + 1) sh H := hM
                          refine lv_iconst (v := 0) hx hb d_M_times_211 (by decide) ?_
                          refine lv_istore (lv' := [(8, .int 0), (6, .int (nI (nn / 16))), (7, .int (nI (nn % 16))), (5, .int (nI (nb z.natAbs))), (4, .int 1), (0, .ref (mm 0)), (1, .int (nI j)), (2, .int (nI j9)), (3, .int (nI nn))]) hx hb d_M_times_212 hl (by decide) rfl (fun ls hl => ?_)
                          have hsh9 : ∀ q, q < (dc + (nn / 16)) + 1 → sh q = P / 65536 ^ q % 65536 := (fun q h2 => hsh q (Nat.zero_le q) h2)
                          have loop87 : ∀ (n2149 : Nat) (k : Nat), (k ≤ (dc + (nn / 16)) + 1) → (dc + (nn / 16)) + 1 - k < n2149 → ∀ (H : Heap) (locs : List Loc) (eg : Nat → Nat), (∀ q, q < k → eg q = P / 65536 ^ q % 65536) → mAt D dT mm wd lf rt tc ty F sz Wk wz eg ((dc + (nn / 16)) + 1) sh H → va_S (mA mm) s.heap H locs → ∀ (ls : Array Slot), lv_has ls 11 [(8, .int (nI k)), (4, .int 1), (0, .ref (mm 0)), (1, .int (nI j)), (2, .int (nI j9))] → W p l e (headSpec w_M_times ({ frames := 4, cells := 0, slots := 0, locals := 90 })).room s m [.ref (mm 0), .int (nI j), .int (nI j9), .int (nI nn)].toArray below meth c H locs 0 0 (MQ below (z_Q (mA mm) (fun v H1 => v = some (.int (kp RV (nI j) (o_times RV (nI j9) (nI nn))).1) ∧ mI D dT mm tb tc (kp RV (nI j) (o_times RV (nI j9) (nI nn))).2 H1)) [.ref (mm 0), .int (nI j), .int (nI j9), .int (nI nn)].toArray s 0 0 (mA mm)) (F0 m 214 ls []) := by
                            intro n2149
                            induction n2149 with
                            | zero =>
                              intro k hk h2149
                              exact absurd h2149 (Nat.not_lt_zero _)
                            | succ n2149 ih214 =>
                              intro k hk h2149 H locs eg heg hM hS ls hl
                              refine lv_iload hx hb d_M_times_214 (lv_at hl 0 rfl) ?_
                              refine lv_aload_n hx hb d_M_times_216 rfl (lv_at hl 2 rfl) ?_
                              refine va_get (D := D) (ci := 10) (v := .int (nI ((dc + (nn / 16)) + 1))) (C := "ValueTreesModel") (T := T_M) (N := 12) hx hb ht in_M hown hK.1 hM.1 0 rfl rfl 10 (by decide) (ht _ q549) (fun _ h9 => h9) rfl d_M_times_217 ?_
                              refine lv_icmp_ge (tgt := 243) hx hb d_M_times_220 (by decide) (fun c88 => ?_) (fun c88 => ?_)
                              · have nc88 : ((dc + (nn / 16)) + 1) ≤ k := (nI_leI (a := ((dc + (nn / 16)) + 1)) (b := k) (by omega) (by omega)).mp c88
                                have e9 : k = (dc + (nn / 16)) + 1 := by omega
                                have hPK : P < 65536 ^ ((dc + (nn / 16)) + 1) := by rw [hP, p65]; have h9 := dval_lt hdx; rw [hvx] at h9; exact Nat.lt_of_lt_of_le (Nat.mul_lt_mul_of_pos_right h9 (Nat.two_pow_pos nn)) (by rw [← Nat.pow_add]; exact Nat.pow_le_pow_right (by decide) (by omega))
                                have hd : ∀ q, q < (dc + (nn / 16)) + 1 → eg q < 65536 := fun q hq => by rw [heg q (by omega)]; exact Nat.mod_lt _ (by decide)
                                have hdc : (dc + (nn / 16)) + 1 ≤ 140 := by omega
                                have hdP : dval eg ((dc + (nn / 16)) + 1) = P := by rw [dig_dval (fun q hq => heg q (by omega)), Nat.mod_eq_of_lt hPK]
                                refine lv_aload_n hx hb d_M_times_243 rfl (lv_at hl 2 rfl) ?_
                                refine z_callQ (va_runV (C := "ValueTreesModel") (As := []) (rest := []) ⟨hx, hb, hml, hown, hts⟩ (c_M_trim l D dT _ mm wd lf rt tc ty F sz Wk wz eg ((dc + (nn / 16)) + 1) sh hM hdc hd) ⟨callB_of 0 hts (gI gd_up gd_c q678) rfl rfl rfl (ht _ q10) (ht _ q675) hd_M_trim ⟨Nat.le_of_ble_eq_true rfl, Nat.le_of_ble_eq_true rfl⟩, ht _ q677, ht _ qs31⟩ (z_preV hK (va_recv hK.1 hM.1 (ci := 10) (q0 := 0) rfl rfl)) rfl rfl hl.1 rfl (lv_room (Nat.le_of_ble_eq_true rfl)) d_M_times_244 ⟨Nat.le_refl _, Nat.le_refl _⟩) hS (fun _ h9 => h9) (fun v90 H locs hv89 hz91 hf92 hS => ?_)
                                obtain ⟨rfl, ec, hec, hval8, htr, hM⟩ := hv89
                                refine W.eq (g2 := F0 m 247 ls []) rfl ?_
                                obtain ⟨hts1, hts2⟩ := times_sgn (z := z) (n := nn)
                                have hdv2 : dval eg ec = (z * 2 ^ nn).natAbs := by rw [hval8, hdP, hts2, hP]
                                have hzz : (z * 2 ^ nn).natAbs < 2 ^ 1024 := by rw [hts2]; exact hPl
                                have hz0 : z * 2 ^ nn < 0 := hts1.mpr hzx
                                refine lv_aload_n hx hb d_M_times_247 rfl (lv_at hl 2 rfl) ?_
                                refine lv_iconst (v := 0) hx hb d_M_times_248 (by decide) ?_
                                refine m_put_wz hx hb ht hown hK hM hS (ht _ q547) 0 rfl d_M_times_249 (fun H locs hM hS => ?_)
                                have hM : mAt D dT mm wd lf rt tc ty F sz Wk 0 eg ec sh H := hM
                                have hW : wAt Wk ([] : List Nat) := wAt_nil hWk
                                have hM : mAt D dT mm wd lf rt tc ty F sz Wk (([] : List Nat).length) eg ec sh H := hM
                                refine lv_aload_n hx hb d_M_times_252 rfl (lv_at hl 2 rfl) ?_
                                refine lv_iload hx hb d_M_times_253 (lv_at hl 1 rfl) ?_
                                refine W.eq (g2 := F0 m 255 ls [.int (if z * 2 ^ nn < 0 then 1 else 0), .ref (mm 0)]) (by rw [if_pos hz0]) ?_
                                refine z_callQ (va_runV (C := "ValueTreesModel") (As := [.int (if z * 2 ^ nn < 0 then 1 else 0)]) (rest := []) ⟨hx, hb, hml, hown, hts⟩ (c_M_putNumber l D dT _ mm wd lf rt tc ty F sz Wk ([] : List Nat) eg ec sh hM hW (fun q hq => hd q (by omega)) (by omega) (z * 2 ^ nn) hzz hdv2 htr (by decide)) ⟨callB_of 1 hts (gI gd_up gd_c q627) rfl rfl rfl (ht _ q10) (ht _ q624) hd_M_putNumber ⟨Nat.le_of_ble_eq_true rfl, Nat.le_of_ble_eq_true rfl⟩, ht _ q626, ht _ qs20⟩ (z_preV hK (va_recv hK.1 hM.1 (ci := 10) (q0 := 0) rfl rfl)) rfl rfl hl.1 rfl (lv_room (Nat.le_of_ble_eq_true rfl)) d_M_times_255 ⟨Nat.le_refl _, Nat.le_refl _⟩) hS (fun _ h9 => h9) (fun v94 H locs hv93 hz95 hf96 hS => ?_)
                                obtain ⟨rfl, Wk, hW, hM⟩ := hv93
                                refine W.eq (g2 := F0 m 258 ls []) rfl ?_
                                refine lv_aload_n hx hb d_M_times_258 rfl (lv_at hl 2 rfl) ?_
                                refine lv_iload_n hx hb d_M_times_259 rfl (lv_at hl 3 rfl) ?_
                                refine lv_aload_n hx hb d_M_times_260 rfl (lv_at hl 2 rfl) ?_
                                refine va_get (D := D) (ci := 10) (v := .ref (mm 4)) (C := "ValueTreesModel") (T := T_M) (N := 12) hx hb ht in_M hown hK.1 hM.1 0 rfl rfl 4 (by decide) (ht _ q543) (fun _ h9 => h9) rfl d_M_times_261 ?_
                                refine lv_iload_n hx hb d_M_times_264 rfl (lv_at hl 4 rfl) ?_
                                refine z_iald hx hb hK (hM.1 4 _ rfl) j9 rfl (by omega) (by decide) d_M_times_265 ?_
                                rw [et8]
                                have hnn0 : (tW (tb (vty v8)) = 3 ∨ tW (tb (vty v8)) = 4) → 0 ≤ z * 2 ^ nn := fun h9 => by
                                  have h8 := hw8
                                  rw [ev] at h8
                                  have h7 := h8.2.2.2.2.2.1 (by simpa [vty] using h9)
                                  exact Int.not_lt.mp (fun h6 => absurd (hts1.mp h6) (by omega))
                                have ebs : ([] : List Nat) ++ (0 :: nser (z * 2 ^ nn)) = cs (.pow (.num (z * 2 ^ nn)) (vty v8)) := rfl
                                rw [ebs] at hW hM
                                refine z_callQ (va_runV (C := "ValueTreesModel") (As := [.int (nI j), .int (nI (vty v8))]) (rest := []) ⟨hx, hb, hml, hown, hts⟩ (c_M_keep l D dT _ mm wd lf rt tc ty F sz Wk (cs (.pow (.num (z * 2 ^ nn)) (vty v8))) eg ec sh hM hW j (vty v8) hj (by rw [← ebs]; have h9 := nser_len (z * 2 ^ nn); have h8 := nb_lt.mpr hzz; simp only [List.length_append, List.length_cons, List.length_nil, size4_len]; omega)) ⟨callB_of 2 hts (gI gd_up gd_c q647) rfl rfl rfl (ht _ q10) (ht _ q644) hd_M_keep ⟨Nat.le_of_ble_eq_true rfl, Nat.le_of_ble_eq_true rfl⟩, ht _ q646, ht _ qs25⟩ (z_preV hK (va_recv hK.1 hM.1 (ci := 10) (q0 := 0) rfl rfl)) rfl rfl hl.1 rfl (lv_room (Nat.le_of_ble_eq_true rfl)) d_M_times_266 ⟨Nat.le_refl _, Nat.le_refl _⟩) hS (fun _ h9 => h9) (fun v98 H locs hv97 hz99 hf100 hS => ?_)
                                rcases hv97 with ⟨hk1, rfl, hM⟩ | ⟨hk1, rfl, hM⟩
                                · refine W.eq (g2 := F0 m 269 ls [.int (-2)]) rfl ?_
                                  refine z_iretQ hx hb hr hlocks d_M_times_269 hS (Nat.le_refl _) (Nat.le_refl _) ?_
                                  have eo := show o_times RV (nI j9) (nI nn) = some (.pow (.num (z * 2 ^ nn)) (vty v8)) from (by rw [ti_ev hj9 hV8 ev hn9]; exact if_pos hlim)
                                  rw [eo]
                                  exact kO_done ⟨_, _, _, _, _, hW.1, Or.inl ⟨hk1, rfl, hM⟩⟩ hO hT hR hj ht8 ⟨rfl, rfl, rfl, hword, hzz, hnn0, fun h9 => by rw [hts2]; exact hw63 h9⟩
                                · refine W.eq (g2 := F0 m 269 ls [.int (nI (cs (.pow (.num (z * 2 ^ nn)) (vty v8))).length)]) rfl ?_
                                  refine z_iretQ hx hb hr hlocks d_M_times_269 hS (Nat.le_refl _) (Nat.le_refl _) ?_
                                  have eo := show o_times RV (nI j9) (nI nn) = some (.pow (.num (z * 2 ^ nn)) (vty v8)) from (by rw [ti_ev hj9 hV8 ev hn9]; exact if_pos hlim)
                                  rw [eo]
                                  exact kO_done ⟨_, _, _, _, _, hW.1, Or.inr ⟨hk1, rfl, hM⟩⟩ hO hT hR hj ht8 ⟨rfl, rfl, rfl, hword, hzz, hnn0, fun h9 => by rw [hts2]; exact hw63 h9⟩
                              · have nc88 : ¬ ((dc + (nn / 16)) + 1) ≤ k := fun h9 => c88 ((nI_leI (a := ((dc + (nn / 16)) + 1)) (b := k) (by omega) (by omega)).mpr h9)
                                refine lv_aload_n hx hb d_M_times_223 rfl (lv_at hl 2 rfl) ?_
                                refine va_get (D := D) (ci := 10) (v := .ref (mm 8)) (C := "ValueTreesModel") (T := T_M) (N := 12) hx hb ht in_M hown hK.1 hM.1 0 rfl rfl 9 (by decide) (ht _ q548) (fun _ h9 => h9) rfl d_M_times_224 ?_
                                refine lv_iload hx hb d_M_times_227 (lv_at hl 0 rfl) ?_
                                refine lv_aload_n hx hb d_M_times_229 rfl (lv_at hl 2 rfl) ?_
                                refine va_get (D := D) (ci := 10) (v := .ref (mm 9)) (C := "ValueTreesModel") (T := T_M) (N := 12) hx hb ht in_M hown hK.1 hM.1 0 rfl rfl 11 (by decide) (ht _ q550) (fun _ h9 => h9) rfl d_M_times_230 ?_
                                refine lv_iload hx hb d_M_times_233 (lv_at hl 0 rfl) ?_
                                refine z_iald hx hb hK (hM.1 9 _ rfl) k rfl (by omega) (by decide) d_M_times_235 ?_
                                refine m_ast_dg hx hb hK hM hS k rfl (by omega) (sh k) rfl d_M_times_236 (fun H locs hM hS => ?_)
                                have hM : mAt D dT mm wd lf rt tc ty F sz Wk wz (updN eg k (sh k)) ((dc + (nn / 16)) + 1) sh H := hM
                                refine lv_iinc (v := (nI (k + 1))) (lv' := [(8, .int (nI (k + 1))), (4, .int 1), (0, .ref (mm 0)), (1, .int (nI j)), (2, .int (nI j9))]) hx hb d_M_times_237 hl (k := 0) rfl (nI_1 k) (by decide) rfl (fun ls hl => ?_)
                                refine lv_goto (tgt := 214) hx hb d_M_times_240 (by decide) ?_
                                exact ih214 (k + 1) (by omega) (by omega) _ _ _ (lt_s (fun q hq => by rw [updN_n (by omega)]; exact heg q hq) (by rw [updN_s]; exact hsh9 k (by omega))) hM hS ls (lv_sub hl [0, 1, 2, 3, 4] rfl)
                          exact loop87 ((dc + (nn / 16)) + 1 + 1) 0 (by omega) (by omega) _ _ dg (fun q hq => absurd hq (Nat.not_lt_zero q)) hM hS ls (lv_sub hl [0, 4, 5, 6, 7] rfl)
                        | succ i =>
                          rw [nI_pred] at hl
                          refine lv_iload hx hb d_M_times_108 (lv_at hl 0 rfl) ?_
                          refine lv_if_lt (tgt := 189) hx hb d_M_times_110 (by decide) (fun c101 => absurd c101 (nI_pos (by omega))) (fun c101 => ?_)
                          refine lv_iload hx hb d_M_times_113 (lv_at hl 0 rfl) ?_
                          refine lv_iload hx hb d_M_times_115 (lv_at hl 1 rfl) ?_
                          refine lv_icmp_lt (tgt := 132) hx hb d_M_times_117 (by decide) (fun c102 => ?_) (fun c102 => ?_)
                          · have nc102 : i < (nn / 16) := (nI_ltI (a := i) (b := (nn / 16)) (by omega) (by omega)).mp c102
                            refine lv_iconst (v := 0) hx hb d_M_times_132 (by decide) ?_
                            refine lv_istore (lv' := [(9, .int 0), (8, .int (nI i)), (6, .int (nI (nn / 16))), (7, .int (nI (nn % 16))), (5, .int (nI (nb z.natAbs))), (4, .int 1), (0, .ref (mm 0)), (1, .int (nI j)), (2, .int (nI j9)), (3, .int (nI nn))]) hx hb d_M_times_133 hl (by decide) rfl (fun ls hl => ?_)
                            refine lv_iload hx hb d_M_times_135 (lv_at hl 1 rfl) ?_
                            refine lv_iload hx hb d_M_times_137 (lv_at hl 2 rfl) ?_
                            refine lv_icmp_le (tgt := 156) hx hb d_M_times_139 (by decide) (fun c103 => ?_) (fun c103 => ?_)
                            · have nc103 : i ≤ (nn / 16) := (nI_leI (a := i) (b := (nn / 16)) (by omega) (by omega)).mp c103
                              refine lv_iconst (v := 0) hx hb d_M_times_156 (by decide) ?_
                              refine lv_istore (lv' := [(10, .int 0), (9, .int 0), (8, .int (nI i)), (6, .int (nI (nn / 16))), (7, .int (nI (nn % 16))), (5, .int (nI (nb z.natAbs))), (4, .int 1), (0, .ref (mm 0)), (1, .int (nI j)), (2, .int (nI j9)), (3, .int (nI nn))]) hx hb d_M_times_157 hl (by decide) rfl (fun ls hl => ?_)
                              refine lv_aload_n hx hb d_M_times_159 rfl (lv_at hl 7 rfl) ?_
                              refine va_get (D := D) (ci := 10) (v := .ref (mm 9)) (C := "ValueTreesModel") (T := T_M) (N := 12) hx hb ht in_M hown hK.1 hM.1 0 rfl rfl 11 (by decide) (ht _ q550) (fun _ h9 => h9) rfl d_M_times_160 ?_
                              refine lv_iload hx hb d_M_times_163 (lv_at hl 2 rfl) ?_
                              refine lv_iload hx hb d_M_times_165 (lv_at hl 1 rfl) ?_
                              refine lv_iload hx hb d_M_times_167 (lv_at hl 4 rfl) ?_
                              refine lv_ishl hx hb d_M_times_169 ?_
                              rw [show ((0 <<< ((nI (nn % 16)) &&& 31)) : Int32) = nI (0 * 2 ^ (nn % 16)) from nI_shlr (n := 0) (r := nn % 16) (by omega) (Nat.lt_trans (hi_lt (by omega) (by omega)) (by decide))]
                              refine lv_iload hx hb d_M_times_170 (lv_at hl 0 rfl) ?_
                              refine lv_bipush (v := 16) hx hb d_M_times_172 (by decide) ?_
                              refine lv_iload hx hb d_M_times_174 (lv_at hl 4 rfl) ?_
                              refine lv_isub hx hb d_M_times_176 ?_
                              rw [show ((16 - (nI (nn % 16))) : Int32) = nI (16 - (nn % 16)) from pk_sub (a := 16) (b := (nn % 16)) (by omega)]
                              refine lv_ishr hx hb d_M_times_177 ?_
                              rw [show ((0 >>> ((nI (16 - (nn % 16))) &&& 31)) : Int32) = nI (0 / 2 ^ (16 - nn % 16)) from nI_shr (n := 0) (r := 16 - nn % 16) (by omega) (by omega)]
                              refine lv_ior hx hb d_M_times_178 ?_
                              rw [show (((nI (0 * 2 ^ (nn % 16))) ||| (nI (0 / 2 ^ (16 - nn % 16)))) : Int32) = nI (0 * 2 ^ (nn % 16) + 0 / 2 ^ (16 - nn % 16)) from nI_or_r (lo_lt (by omega) (by omega))]
                              refine lv_ldc (v := 65535) hx hb hown (hts (.constant "ValueTreesModel" 130 65535) (by decide +kernel)) d_M_times_179 ?_
                              refine lv_iand hx hb d_M_times_181 ?_
                              rw [show (((nI (0 * 2 ^ (nn % 16) + 0 / 2 ^ (16 - nn % 16))) &&& 65535) : Int32) = nI ((0 * 2 ^ (nn % 16) + 0 / 2 ^ (16 - nn % 16)) % 65536) from nI_and65535 (by have h9 := hi_lt (x := 0) (r := nn % 16) (by omega) (by omega); have h8 := lo_lt (x := 0) (r := nn % 16) (by omega) (by omega); have h7 : 2 ^ (nn % 16) ≤ 2 ^ 15 := Nat.pow_le_pow_right (by decide) (by omega); omega)]
                              have hnew : (0 * 2 ^ (nn % 16) + 0 / 2 ^ (16 - nn % 16)) % 65536 = P / 65536 ^ i % 65536 := by
                                rw [hP, shl_0 (by omega), Nat.zero_mul, Nat.zero_div]
                              refine m_ast_sh hx hb hK hM hS i rfl (by omega) ((0 * 2 ^ (nn % 16) + 0 / 2 ^ (16 - nn % 16)) % 65536) rfl d_M_times_182 (fun H locs hM hS => ?_)
                              have hM : mAt D dT mm wd lf rt tc ty F sz Wk wz dg dc (updN sh i ((0 * 2 ^ (nn % 16) + 0 / 2 ^ (16 - nn % 16)) % 65536)) H := hM
                              refine lv_iinc (v := (nI i - 1)) (lv' := [(8, .int (nI i - 1)), (10, .int 0), (9, .int 0), (6, .int (nI (nn / 16))), (7, .int (nI (nn % 16))), (5, .int (nI (nb z.natAbs))), (4, .int 1), (0, .ref (mm 0)), (1, .int (nI j)), (2, .int (nI j9)), (3, .int (nI nn))]) hx hb d_M_times_183 hl (k := 2) rfl (by rw [Int32.sub_eq_add_neg]; rfl) (by decide) rfl (fun ls hl => ?_)
                              refine lv_goto (tgt := 108) hx hb d_M_times_186 (by decide) ?_
                              exact ih108 i (by omega) (by omega) _ _ _ (fun q h1 h2 => by rcases Nat.eq_or_lt_of_le h1 with e | e <;> first | (subst e; rw [updN_s]; exact hnew) | (rw [updN_n (by omega)]; exact hsh q e h2)) hM hS ls (lv_sub hl [0, 3, 4, 5, 6, 7, 8, 9, 10] rfl)
                            · have nc103 : ¬ i ≤ (nn / 16) := fun h9 => c103 ((nI_leI (a := i) (b := (nn / 16)) (by omega) (by omega)).mpr h9)
                              refine lv_aload_n hx hb d_M_times_142 rfl (lv_at hl 6 rfl) ?_
                              refine lv_iload hx hb d_M_times_143 (lv_at hl 1 rfl) ?_
                              refine lv_iload hx hb d_M_times_145 (lv_at hl 2 rfl) ?_
                              refine lv_isub hx hb d_M_times_147 ?_
                              rw [show (((nI i) - (nI (nn / 16))) : Int32) = nI (i - (nn / 16)) from pk_sub (a := i) (b := (nn / 16)) (by omega)]
                              refine lv_iconst (v := 1) hx hb d_M_times_148 (by decide) ?_
                              refine lv_isub hx hb d_M_times_149 ?_
                              rw [show (((nI (i - (nn / 16))) - 1) : Int32) = nI ((i - (nn / 16)) - 1) from pk_sub (a := (i - (nn / 16))) (b := 1) (by omega)]
                              refine z_callR (va_runV (C := "ValueTreesModel") (As := [.int (nI ((i - (nn / 16)) - 1))]) (rest := []) ⟨hx, hb, hml, hown, hts⟩ (c_M_digitAt l D dT _ mm wd lf rt tc ty F sz Wk wz dg dc sh hM ((i - (nn / 16)) - 1) (by omega) hdc) ⟨callB_of 1 hts (gI gd_up gd_c q643) rfl rfl rfl (ht _ q10) (ht _ q640) hd_M_digitAt ⟨Nat.le_of_ble_eq_true rfl, Nat.le_of_ble_eq_true rfl⟩, ht _ q642, ht _ qs24⟩ (z_preV hK (va_recv hK.1 hM.1 (ci := 10) (q0 := 0) rfl rfl)) rfl rfl hl.1 rfl (lv_room (Nat.le_of_ble_eq_true rfl)) d_M_times_150 ⟨Nat.zero_le _, Nat.zero_le _⟩) (fun v105 hv104 => ?_)
                              obtain ⟨g106, hg106⟩ : ∃ y, y = (if (i - (nn / 16)) - 1 < dc then dg ((i - (nn / 16)) - 1) else 0) := ⟨_, rfl⟩
                              have hv104 : v105 = .int (nI g106) := by rw [hg106]; exact hv104
                              subst hv104
                              have hg106l : g106 < 65536 := by rw [hg106]; exact dgat hd _
                              have hg106d : g106 = z.natAbs / 2 ^ (16 * ((i - (nn / 16)) - 1)) % 65536 := by rw [hg106, digit_of hd, hdv]
                              refine lv_goto (tgt := 157) hx hb d_M_times_153 (by decide) ?_
                              refine lv_istore (lv' := [(10, .int (nI g106)), (9, .int 0), (8, .int (nI i)), (6, .int (nI (nn / 16))), (7, .int (nI (nn % 16))), (5, .int (nI (nb z.natAbs))), (4, .int 1), (0, .ref (mm 0)), (1, .int (nI j)), (2, .int (nI j9)), (3, .int (nI nn))]) hx hb d_M_times_157 hl (by decide) rfl (fun ls hl => ?_)
                              refine lv_aload_n hx hb d_M_times_159 rfl (lv_at hl 7 rfl) ?_
                              refine va_get (D := D) (ci := 10) (v := .ref (mm 9)) (C := "ValueTreesModel") (T := T_M) (N := 12) hx hb ht in_M hown hK.1 hM.1 0 rfl rfl 11 (by decide) (ht _ q550) (fun _ h9 => h9) rfl d_M_times_160 ?_
                              refine lv_iload hx hb d_M_times_163 (lv_at hl 2 rfl) ?_
                              refine lv_iload hx hb d_M_times_165 (lv_at hl 1 rfl) ?_
                              refine lv_iload hx hb d_M_times_167 (lv_at hl 4 rfl) ?_
                              refine lv_ishl hx hb d_M_times_169 ?_
                              rw [show ((0 <<< ((nI (nn % 16)) &&& 31)) : Int32) = nI (0 * 2 ^ (nn % 16)) from nI_shlr (n := 0) (r := nn % 16) (by omega) (Nat.lt_trans (hi_lt (by omega) (by omega)) (by decide))]
                              refine lv_iload hx hb d_M_times_170 (lv_at hl 0 rfl) ?_
                              refine lv_bipush (v := 16) hx hb d_M_times_172 (by decide) ?_
                              refine lv_iload hx hb d_M_times_174 (lv_at hl 4 rfl) ?_
                              refine lv_isub hx hb d_M_times_176 ?_
                              rw [show ((16 - (nI (nn % 16))) : Int32) = nI (16 - (nn % 16)) from pk_sub (a := 16) (b := (nn % 16)) (by omega)]
                              refine lv_ishr hx hb d_M_times_177 ?_
                              rw [show (((nI g106) >>> ((nI (16 - (nn % 16))) &&& 31)) : Int32) = nI (g106 / 2 ^ (16 - nn % 16)) from nI_shr (n := g106) (r := 16 - nn % 16) (by omega) (by omega)]
                              refine lv_ior hx hb d_M_times_178 ?_
                              rw [show (((nI (0 * 2 ^ (nn % 16))) ||| (nI (g106 / 2 ^ (16 - nn % 16)))) : Int32) = nI (0 * 2 ^ (nn % 16) + g106 / 2 ^ (16 - nn % 16)) from nI_or_r (lo_lt (by omega) (by omega))]
                              refine lv_ldc (v := 65535) hx hb hown (hts (.constant "ValueTreesModel" 130 65535) (by decide +kernel)) d_M_times_179 ?_
                              refine lv_iand hx hb d_M_times_181 ?_
                              rw [show (((nI (0 * 2 ^ (nn % 16) + g106 / 2 ^ (16 - nn % 16))) &&& 65535) : Int32) = nI ((0 * 2 ^ (nn % 16) + g106 / 2 ^ (16 - nn % 16)) % 65536) from nI_and65535 (by have h9 := hi_lt (x := 0) (r := nn % 16) (by omega) (by omega); have h8 := lo_lt (x := g106) (r := nn % 16) (by omega) (by omega); have h7 : 2 ^ (nn % 16) ≤ 2 ^ 15 := Nat.pow_le_pow_right (by decide) (by omega); omega)]
                              have hnew : (0 * 2 ^ (nn % 16) + g106 / 2 ^ (16 - nn % 16)) % 65536 = P / 65536 ^ i % 65536 := by
                                exfalso; omega
                              refine m_ast_sh hx hb hK hM hS i rfl (by omega) ((0 * 2 ^ (nn % 16) + g106 / 2 ^ (16 - nn % 16)) % 65536) rfl d_M_times_182 (fun H locs hM hS => ?_)
                              have hM : mAt D dT mm wd lf rt tc ty F sz Wk wz dg dc (updN sh i ((0 * 2 ^ (nn % 16) + g106 / 2 ^ (16 - nn % 16)) % 65536)) H := hM
                              refine lv_iinc (v := (nI i - 1)) (lv' := [(8, .int (nI i - 1)), (10, .int (nI g106)), (9, .int 0), (6, .int (nI (nn / 16))), (7, .int (nI (nn % 16))), (5, .int (nI (nb z.natAbs))), (4, .int 1), (0, .ref (mm 0)), (1, .int (nI j)), (2, .int (nI j9)), (3, .int (nI nn))]) hx hb d_M_times_183 hl (k := 2) rfl (by rw [Int32.sub_eq_add_neg]; rfl) (by decide) rfl (fun ls hl => ?_)
                              refine lv_goto (tgt := 108) hx hb d_M_times_186 (by decide) ?_
                              exact ih108 i (by omega) (by omega) _ _ _ (fun q h1 h2 => by rcases Nat.eq_or_lt_of_le h1 with e | e <;> first | (subst e; rw [updN_s]; exact hnew) | (rw [updN_n (by omega)]; exact hsh q e h2)) hM hS ls (lv_sub hl [0, 3, 4, 5, 6, 7, 8, 9, 10] rfl)
                          · have nc102 : ¬ i < (nn / 16) := fun h9 => c102 ((nI_ltI (a := i) (b := (nn / 16)) (by omega) (by omega)).mpr h9)
                            refine lv_aload_n hx hb d_M_times_120 rfl (lv_at hl 5 rfl) ?_
                            refine lv_iload hx hb d_M_times_121 (lv_at hl 0 rfl) ?_
                            refine lv_iload hx hb d_M_times_123 (lv_at hl 1 rfl) ?_
                            refine lv_isub hx hb d_M_times_125 ?_
                            rw [show (((nI i) - (nI (nn / 16))) : Int32) = nI (i - (nn / 16)) from pk_sub (a := i) (b := (nn / 16)) (by omega)]
                            refine z_callR (va_runV (C := "ValueTreesModel") (As := [.int (nI (i - (nn / 16)))]) (rest := []) ⟨hx, hb, hml, hown, hts⟩ (c_M_digitAt l D dT _ mm wd lf rt tc ty F sz Wk wz dg dc sh hM (i - (nn / 16)) (by omega) hdc) ⟨callB_of 1 hts (gI gd_up gd_c q643) rfl rfl rfl (ht _ q10) (ht _ q640) hd_M_digitAt ⟨Nat.le_of_ble_eq_true rfl, Nat.le_of_ble_eq_true rfl⟩, ht _ q642, ht _ qs24⟩ (z_preV hK (va_recv hK.1 hM.1 (ci := 10) (q0 := 0) rfl rfl)) rfl rfl hl.1 rfl (lv_room (Nat.le_of_ble_eq_true rfl)) d_M_times_126 ⟨Nat.zero_le _, Nat.zero_le _⟩) (fun v108 hv107 => ?_)
                            obtain ⟨g109, hg109⟩ : ∃ y, y = (if i - (nn / 16) < dc then dg (i - (nn / 16)) else 0) := ⟨_, rfl⟩
                            have hv107 : v108 = .int (nI g109) := by rw [hg109]; exact hv107
                            subst hv107
                            have hg109l : g109 < 65536 := by rw [hg109]; exact dgat hd _
                            have hg109d : g109 = z.natAbs / 2 ^ (16 * (i - (nn / 16))) % 65536 := by rw [hg109, digit_of hd, hdv]
                            refine lv_goto (tgt := 133) hx hb d_M_times_129 (by decide) ?_
                            refine lv_istore (lv' := [(9, .int (nI g109)), (8, .int (nI i)), (6, .int (nI (nn / 16))), (7, .int (nI (nn % 16))), (5, .int (nI (nb z.natAbs))), (4, .int 1), (0, .ref (mm 0)), (1, .int (nI j)), (2, .int (nI j9)), (3, .int (nI nn))]) hx hb d_M_times_133 hl (by decide) rfl (fun ls hl => ?_)
                            refine lv_iload hx hb d_M_times_135 (lv_at hl 1 rfl) ?_
                            refine lv_iload hx hb d_M_times_137 (lv_at hl 2 rfl) ?_
                            refine lv_icmp_le (tgt := 156) hx hb d_M_times_139 (by decide) (fun c110 => ?_) (fun c110 => ?_)
                            · have nc110 : i ≤ (nn / 16) := (nI_leI (a := i) (b := (nn / 16)) (by omega) (by omega)).mp c110
                              refine lv_iconst (v := 0) hx hb d_M_times_156 (by decide) ?_
                              refine lv_istore (lv' := [(10, .int 0), (9, .int (nI g109)), (8, .int (nI i)), (6, .int (nI (nn / 16))), (7, .int (nI (nn % 16))), (5, .int (nI (nb z.natAbs))), (4, .int 1), (0, .ref (mm 0)), (1, .int (nI j)), (2, .int (nI j9)), (3, .int (nI nn))]) hx hb d_M_times_157 hl (by decide) rfl (fun ls hl => ?_)
                              refine lv_aload_n hx hb d_M_times_159 rfl (lv_at hl 7 rfl) ?_
                              refine va_get (D := D) (ci := 10) (v := .ref (mm 9)) (C := "ValueTreesModel") (T := T_M) (N := 12) hx hb ht in_M hown hK.1 hM.1 0 rfl rfl 11 (by decide) (ht _ q550) (fun _ h9 => h9) rfl d_M_times_160 ?_
                              refine lv_iload hx hb d_M_times_163 (lv_at hl 2 rfl) ?_
                              refine lv_iload hx hb d_M_times_165 (lv_at hl 1 rfl) ?_
                              refine lv_iload hx hb d_M_times_167 (lv_at hl 4 rfl) ?_
                              refine lv_ishl hx hb d_M_times_169 ?_
                              rw [show (((nI g109) <<< ((nI (nn % 16)) &&& 31)) : Int32) = nI (g109 * 2 ^ (nn % 16)) from nI_shlr (n := g109) (r := nn % 16) (by omega) (Nat.lt_trans (hi_lt (by omega) (by omega)) (by decide))]
                              refine lv_iload hx hb d_M_times_170 (lv_at hl 0 rfl) ?_
                              refine lv_bipush (v := 16) hx hb d_M_times_172 (by decide) ?_
                              refine lv_iload hx hb d_M_times_174 (lv_at hl 4 rfl) ?_
                              refine lv_isub hx hb d_M_times_176 ?_
                              rw [show ((16 - (nI (nn % 16))) : Int32) = nI (16 - (nn % 16)) from pk_sub (a := 16) (b := (nn % 16)) (by omega)]
                              refine lv_ishr hx hb d_M_times_177 ?_
                              rw [show ((0 >>> ((nI (16 - (nn % 16))) &&& 31)) : Int32) = nI (0 / 2 ^ (16 - nn % 16)) from nI_shr (n := 0) (r := 16 - nn % 16) (by omega) (by omega)]
                              refine lv_ior hx hb d_M_times_178 ?_
                              rw [show (((nI (g109 * 2 ^ (nn % 16))) ||| (nI (0 / 2 ^ (16 - nn % 16)))) : Int32) = nI (g109 * 2 ^ (nn % 16) + 0 / 2 ^ (16 - nn % 16)) from nI_or_r (lo_lt (by omega) (by omega))]
                              refine lv_ldc (v := 65535) hx hb hown (hts (.constant "ValueTreesModel" 130 65535) (by decide +kernel)) d_M_times_179 ?_
                              refine lv_iand hx hb d_M_times_181 ?_
                              rw [show (((nI (g109 * 2 ^ (nn % 16) + 0 / 2 ^ (16 - nn % 16))) &&& 65535) : Int32) = nI ((g109 * 2 ^ (nn % 16) + 0 / 2 ^ (16 - nn % 16)) % 65536) from nI_and65535 (by have h9 := hi_lt (x := g109) (r := nn % 16) (by omega) (by omega); have h8 := lo_lt (x := 0) (r := nn % 16) (by omega) (by omega); have h7 : 2 ^ (nn % 16) ≤ 2 ^ 15 := Nat.pow_le_pow_right (by decide) (by omega); omega)]
                              have hnew : (g109 * 2 ^ (nn % 16) + 0 / 2 ^ (16 - nn % 16)) % 65536 = P / 65536 ^ i % 65536 := by
                                rw [hP, shl_a (show nn / 16 = i by omega), hg109d, show i - nn / 16 = 0 by omega, Nat.zero_div, Nat.add_zero]
                              refine m_ast_sh hx hb hK hM hS i rfl (by omega) ((g109 * 2 ^ (nn % 16) + 0 / 2 ^ (16 - nn % 16)) % 65536) rfl d_M_times_182 (fun H locs hM hS => ?_)
                              have hM : mAt D dT mm wd lf rt tc ty F sz Wk wz dg dc (updN sh i ((g109 * 2 ^ (nn % 16) + 0 / 2 ^ (16 - nn % 16)) % 65536)) H := hM
                              refine lv_iinc (v := (nI i - 1)) (lv' := [(8, .int (nI i - 1)), (10, .int 0), (9, .int (nI g109)), (6, .int (nI (nn / 16))), (7, .int (nI (nn % 16))), (5, .int (nI (nb z.natAbs))), (4, .int 1), (0, .ref (mm 0)), (1, .int (nI j)), (2, .int (nI j9)), (3, .int (nI nn))]) hx hb d_M_times_183 hl (k := 2) rfl (by rw [Int32.sub_eq_add_neg]; rfl) (by decide) rfl (fun ls hl => ?_)
                              refine lv_goto (tgt := 108) hx hb d_M_times_186 (by decide) ?_
                              exact ih108 i (by omega) (by omega) _ _ _ (fun q h1 h2 => by rcases Nat.eq_or_lt_of_le h1 with e | e <;> first | (subst e; rw [updN_s]; exact hnew) | (rw [updN_n (by omega)]; exact hsh q e h2)) hM hS ls (lv_sub hl [0, 3, 4, 5, 6, 7, 8, 9, 10] rfl)
                            · have nc110 : ¬ i ≤ (nn / 16) := fun h9 => c110 ((nI_leI (a := i) (b := (nn / 16)) (by omega) (by omega)).mpr h9)
                              refine lv_aload_n hx hb d_M_times_142 rfl (lv_at hl 6 rfl) ?_
                              refine lv_iload hx hb d_M_times_143 (lv_at hl 1 rfl) ?_
                              refine lv_iload hx hb d_M_times_145 (lv_at hl 2 rfl) ?_
                              refine lv_isub hx hb d_M_times_147 ?_
                              rw [show (((nI i) - (nI (nn / 16))) : Int32) = nI (i - (nn / 16)) from pk_sub (a := i) (b := (nn / 16)) (by omega)]
                              refine lv_iconst (v := 1) hx hb d_M_times_148 (by decide) ?_
                              refine lv_isub hx hb d_M_times_149 ?_
                              rw [show (((nI (i - (nn / 16))) - 1) : Int32) = nI ((i - (nn / 16)) - 1) from pk_sub (a := (i - (nn / 16))) (b := 1) (by omega)]
                              refine z_callR (va_runV (C := "ValueTreesModel") (As := [.int (nI ((i - (nn / 16)) - 1))]) (rest := []) ⟨hx, hb, hml, hown, hts⟩ (c_M_digitAt l D dT _ mm wd lf rt tc ty F sz Wk wz dg dc sh hM ((i - (nn / 16)) - 1) (by omega) hdc) ⟨callB_of 1 hts (gI gd_up gd_c q643) rfl rfl rfl (ht _ q10) (ht _ q640) hd_M_digitAt ⟨Nat.le_of_ble_eq_true rfl, Nat.le_of_ble_eq_true rfl⟩, ht _ q642, ht _ qs24⟩ (z_preV hK (va_recv hK.1 hM.1 (ci := 10) (q0 := 0) rfl rfl)) rfl rfl hl.1 rfl (lv_room (Nat.le_of_ble_eq_true rfl)) d_M_times_150 ⟨Nat.zero_le _, Nat.zero_le _⟩) (fun v112 hv111 => ?_)
                              obtain ⟨g113, hg113⟩ : ∃ y, y = (if (i - (nn / 16)) - 1 < dc then dg ((i - (nn / 16)) - 1) else 0) := ⟨_, rfl⟩
                              have hv111 : v112 = .int (nI g113) := by rw [hg113]; exact hv111
                              subst hv111
                              have hg113l : g113 < 65536 := by rw [hg113]; exact dgat hd _
                              have hg113d : g113 = z.natAbs / 2 ^ (16 * ((i - (nn / 16)) - 1)) % 65536 := by rw [hg113, digit_of hd, hdv]
                              refine lv_goto (tgt := 157) hx hb d_M_times_153 (by decide) ?_
                              refine lv_istore (lv' := [(10, .int (nI g113)), (9, .int (nI g109)), (8, .int (nI i)), (6, .int (nI (nn / 16))), (7, .int (nI (nn % 16))), (5, .int (nI (nb z.natAbs))), (4, .int 1), (0, .ref (mm 0)), (1, .int (nI j)), (2, .int (nI j9)), (3, .int (nI nn))]) hx hb d_M_times_157 hl (by decide) rfl (fun ls hl => ?_)
                              refine lv_aload_n hx hb d_M_times_159 rfl (lv_at hl 7 rfl) ?_
                              refine va_get (D := D) (ci := 10) (v := .ref (mm 9)) (C := "ValueTreesModel") (T := T_M) (N := 12) hx hb ht in_M hown hK.1 hM.1 0 rfl rfl 11 (by decide) (ht _ q550) (fun _ h9 => h9) rfl d_M_times_160 ?_
                              refine lv_iload hx hb d_M_times_163 (lv_at hl 2 rfl) ?_
                              refine lv_iload hx hb d_M_times_165 (lv_at hl 1 rfl) ?_
                              refine lv_iload hx hb d_M_times_167 (lv_at hl 4 rfl) ?_
                              refine lv_ishl hx hb d_M_times_169 ?_
                              rw [show (((nI g109) <<< ((nI (nn % 16)) &&& 31)) : Int32) = nI (g109 * 2 ^ (nn % 16)) from nI_shlr (n := g109) (r := nn % 16) (by omega) (Nat.lt_trans (hi_lt (by omega) (by omega)) (by decide))]
                              refine lv_iload hx hb d_M_times_170 (lv_at hl 0 rfl) ?_
                              refine lv_bipush (v := 16) hx hb d_M_times_172 (by decide) ?_
                              refine lv_iload hx hb d_M_times_174 (lv_at hl 4 rfl) ?_
                              refine lv_isub hx hb d_M_times_176 ?_
                              rw [show ((16 - (nI (nn % 16))) : Int32) = nI (16 - (nn % 16)) from pk_sub (a := 16) (b := (nn % 16)) (by omega)]
                              refine lv_ishr hx hb d_M_times_177 ?_
                              rw [show (((nI g113) >>> ((nI (16 - (nn % 16))) &&& 31)) : Int32) = nI (g113 / 2 ^ (16 - nn % 16)) from nI_shr (n := g113) (r := 16 - nn % 16) (by omega) (by omega)]
                              refine lv_ior hx hb d_M_times_178 ?_
                              rw [show (((nI (g109 * 2 ^ (nn % 16))) ||| (nI (g113 / 2 ^ (16 - nn % 16)))) : Int32) = nI (g109 * 2 ^ (nn % 16) + g113 / 2 ^ (16 - nn % 16)) from nI_or_r (lo_lt (by omega) (by omega))]
                              refine lv_ldc (v := 65535) hx hb hown (hts (.constant "ValueTreesModel" 130 65535) (by decide +kernel)) d_M_times_179 ?_
                              refine lv_iand hx hb d_M_times_181 ?_
                              rw [show (((nI (g109 * 2 ^ (nn % 16) + g113 / 2 ^ (16 - nn % 16))) &&& 65535) : Int32) = nI ((g109 * 2 ^ (nn % 16) + g113 / 2 ^ (16 - nn % 16)) % 65536) from nI_and65535 (by have h9 := hi_lt (x := g109) (r := nn % 16) (by omega) (by omega); have h8 := lo_lt (x := g113) (r := nn % 16) (by omega) (by omega); have h7 : 2 ^ (nn % 16) ≤ 2 ^ 15 := Nat.pow_le_pow_right (by decide) (by omega); omega)]
                              have hnew : (g109 * 2 ^ (nn % 16) + g113 / 2 ^ (16 - nn % 16)) % 65536 = P / 65536 ^ i % 65536 := by
                                have e8 : i = nn / 16 + (i - nn / 16 - 1 + 1) := by omega
                                have h8 := shl_b (N := z.natAbs) (n := nn) (q := i - nn / 16 - 1)
                                rw [← e8] at h8
                                rw [hP, h8, hg109d, hg113d, show i - nn / 16 - 1 + 1 = i - nn / 16 by omega]
                              refine m_ast_sh hx hb hK hM hS i rfl (by omega) ((g109 * 2 ^ (nn % 16) + g113 / 2 ^ (16 - nn % 16)) % 65536) rfl d_M_times_182 (fun H locs hM hS => ?_)
                              have hM : mAt D dT mm wd lf rt tc ty F sz Wk wz dg dc (updN sh i ((g109 * 2 ^ (nn % 16) + g113 / 2 ^ (16 - nn % 16)) % 65536)) H := hM
                              refine lv_iinc (v := (nI i - 1)) (lv' := [(8, .int (nI i - 1)), (10, .int (nI g113)), (9, .int (nI g109)), (6, .int (nI (nn / 16))), (7, .int (nI (nn % 16))), (5, .int (nI (nb z.natAbs))), (4, .int 1), (0, .ref (mm 0)), (1, .int (nI j)), (2, .int (nI j9)), (3, .int (nI nn))]) hx hb d_M_times_183 hl (k := 2) rfl (by rw [Int32.sub_eq_add_neg]; rfl) (by decide) rfl (fun ls hl => ?_)
                              refine lv_goto (tgt := 108) hx hb d_M_times_186 (by decide) ?_
                              exact ih108 i (by omega) (by omega) _ _ _ (fun q h1 h2 => by rcases Nat.eq_or_lt_of_le h1 with e | e <;> first | (subst e; rw [updN_s]; exact hnew) | (rw [updN_n (by omega)]; exact hsh q e h2)) hM hS ls (lv_sub hl [0, 3, 4, 5, 6, 7, 8, 9, 10] rfl)
                    exact loop84 (dc + nn / 16 + 2) (dc + nn / 16 + 1) (Nat.le_refl _) (by omega) _ _ sh (fun q h1 h2 => absurd h1 (by omega)) hM hS ls (lv_sub hl [0, 2, 1, 3, 4, 5, 6, 7, 8] rfl)
                  · have nc82 : ¬ ((nb z.natAbs) + nn) ≤ 63 := fun h9 => c82 ((nI_leI (a := ((nb z.natAbs) + nn)) (b := 63) (by omega) (by omega)).mpr h9)
                    refine lv_iconst (v := (-1)) hx hb d_M_times_76 (by decide) ?_
                    refine z_iretQ hx hb hr hlocks d_M_times_77 hS (Nat.le_refl _) (Nat.le_refl _) ?_
                    have eo : o_times RV (nI j9) (nI nn) = none := by rw [ti_ev hj9 hV8 ev hn9]; exact if_neg (fun h9 => by rcases h9 with h9 | h9 <;> first | omega | (split at h9 <;> omega))
                    rw [eo]
                    exact ⟨rfl, _, _, _, _, _, _, _, _, _, _, _, hM, hO, hT, hR, hWk⟩
            · rw [if_neg hzx]
              refine lv_istore (lv' := [(4, .int 0), (0, .ref (mm 0)), (1, .int (nI j)), (2, .int (nI j9)), (3, .int (nI nn))]) hx hb d_M_times_39 hl (by decide) rfl (fun ls hl => ?_)
              have hd := hdx
              have hdc := hdcx
              have hdv := hvx
              have htr := htrx
              have hdc64 := dc_64 hd htr (by rw [hdv]; exact hm9)
              refine lv_aload_n hx hb d_M_times_41 rfl (lv_at hl 1 rfl) ?_
              refine z_callR (va_runV (C := "ValueTreesModel") (As := []) (rest := []) ⟨hx, hb, hml, hown, hts⟩ (c_M_bits l D dT _ mm wd lf rt tc ty F sz Wk wz dg dc sh hM hd hdc htr) ⟨callB_of 0 hts (gI gd_up gd_c q631) rfl rfl rfl (ht _ q10) (ht _ q628) hd_M_bits ⟨Nat.le_of_ble_eq_true rfl, Nat.le_of_ble_eq_true rfl⟩, ht _ q630, ht _ qs21⟩ (z_preV hK (va_recv hK.1 hM.1 (ci := 10) (q0 := 0) rfl rfl)) rfl rfl hl.1 rfl (lv_room (Nat.le_of_ble_eq_true rfl)) d_M_times_42 ⟨Nat.zero_le _, Nat.zero_le _⟩) (fun v115 hv114 => ?_)
              have hv114 : v115 = .int (nI (nb z.natAbs)) := by rw [← hdv]; exact hv114
              subst hv114
              refine lv_istore (lv' := [(5, .int (nI (nb z.natAbs))), (4, .int 0), (0, .ref (mm 0)), (1, .int (nI j)), (2, .int (nI j9)), (3, .int (nI nn))]) hx hb d_M_times_45 hl (by decide) rfl (fun ls hl => ?_)
              rcases Nat.eq_zero_or_pos (nb z.natAbs) with hnb | hnb
              · refine lv_iload hx hb d_M_times_47 (lv_at hl 0 rfl) ?_
                refine lv_if_le (tgt := 78) hx hb d_M_times_49 (by decide) (fun c116 => ?_) (fun c116 => absurd ((nI_leI (a := (nb z.natAbs)) (b := 0) (by omega) (by omega)).mpr (by omega)) c116)
                have hlim : nb z.natAbs = 0 ∨ nb z.natAbs + nn ≤ (if vty v8 = 4 then 63 else 1024) := Or.inl hnb
                have hPl : z.natAbs * 2 ^ nn < 2 ^ 1024 := by rw [nb_0 hnb, Nat.zero_mul]; exact Nat.two_pow_pos _
                have hw63 : tW (tb (vty v8)) = 4 → z.natAbs * 2 ^ nn < 2 ^ 63 := fun _ => by rw [nb_0 hnb, Nat.zero_mul]; exact Nat.two_pow_pos _
                obtain ⟨P, hP⟩ : ∃ y, y = z.natAbs * 2 ^ nn := ⟨_, rfl⟩
                refine lv_iload_n hx hb d_M_times_78 rfl (lv_at hl 5 rfl) ?_
                refine lv_bipush (v := 16) hx hb d_M_times_79 (by decide) ?_
                refine lv_idiv hx hb d_M_times_81 (by decide) ?_
                rw [show (((nI nn) / 16) : Int32) = nI (nn / 16) from pk_div (a := nn) (d := 16) (by omega) (by decide) (by decide)]
                refine lv_istore (lv' := [(6, .int (nI (nn / 16))), (5, .int (nI (nb z.natAbs))), (4, .int 0), (0, .ref (mm 0)), (1, .int (nI j)), (2, .int (nI j9)), (3, .int (nI nn))]) hx hb d_M_times_82 hl (by decide) rfl (fun ls hl => ?_)
                refine lv_iload_n hx hb d_M_times_84 rfl (lv_at hl 6 rfl) ?_
                refine lv_bipush (v := 16) hx hb d_M_times_85 (by decide) ?_
                refine lv_irem hx hb d_M_times_87 (by decide) ?_
                rw [show (((nI nn) - (nI nn) / 16 * 16) : Int32) = nI (nn % 16) from pk_rem (a := nn) (d := 16) (by omega) (by decide) (by decide)]
                refine lv_istore (lv' := [(7, .int (nI (nn % 16))), (6, .int (nI (nn / 16))), (5, .int (nI (nb z.natAbs))), (4, .int 0), (0, .ref (mm 0)), (1, .int (nI j)), (2, .int (nI j9)), (3, .int (nI nn))]) hx hb d_M_times_88 hl (by decide) rfl (fun ls hl => ?_)
                refine lv_iload hx hb d_M_times_90 (lv_at hl 2 rfl) ?_
                refine lv_if_ne (tgt := 99) hx hb d_M_times_92 (by decide) (fun c117 => absurd ((nI_eq (a := (nb z.natAbs)) (b := 0) (by omega) (by omega)).mpr (by omega)) c117) (fun c117 => ?_)
                refine lv_iconst (v := (-1)) hx hb d_M_times_95 (by decide) ?_
                refine lv_goto (tgt := 106) hx hb d_M_times_96 (by decide) ?_
                refine lv_istore (lv' := [(8, .int (-1)), (7, .int (nI (nn % 16))), (6, .int (nI (nn / 16))), (5, .int (nI (nb z.natAbs))), (4, .int 0), (0, .ref (mm 0)), (1, .int (nI j)), (2, .int (nI j9)), (3, .int (nI nn))]) hx hb d_M_times_106 hl (by decide) rfl (fun ls hl => ?_)
                refine lv_iload hx hb d_M_times_108 (lv_at hl 0 rfl) ?_
                refine lv_if_lt (tgt := 189) hx hb d_M_times_110 (by decide) (fun _ => ?_) (fun c118 => absurd c118 (by decide))
                refine lv_aload_n hx hb d_M_times_189 rfl (lv_at hl 5 rfl) ?_
                refine lv_iload hx hb d_M_times_190 (lv_at hl 3 rfl) ?_
                refine lv_if_ne (tgt := 199) hx hb d_M_times_192 (by decide) (fun c119 => absurd ((nI_eq (a := (nb z.natAbs)) (b := 0) (by omega) (by omega)).mpr (by omega)) c119) (fun c119 => ?_)
                refine lv_iconst (v := 0) hx hb d_M_times_195 (by decide) ?_
                refine lv_goto (tgt := 208) hx hb d_M_times_196 (by decide) ?_
                refine m_put_dc hx hb ht hown hK hM hS (ht _ q549) 0 rfl d_M_times_208 (fun H locs hM hS => ?_)
                have hM : mAt D dT mm wd lf rt tc ty F sz Wk wz dg 0 sh H := hM
                refine lv_iconst (v := 0) hx hb d_M_times_211 (by decide) ?_
                refine lv_istore (lv' := [(8, .int 0), (7, .int (nI (nn % 16))), (6, .int (nI (nn / 16))), (5, .int (nI (nb z.natAbs))), (4, .int 0), (0, .ref (mm 0)), (1, .int (nI j)), (2, .int (nI j9)), (3, .int (nI nn))]) hx hb d_M_times_212 hl (by decide) rfl (fun ls hl => ?_)
                have hsh9 : ∀ q, q < 0 → sh q = P / 65536 ^ q % 65536 := (fun q h2 => absurd h2 (Nat.not_lt_zero q))
                have loop120 : ∀ (n2149 : Nat) (k : Nat), (k ≤ 0) → 0 - k < n2149 → ∀ (H : Heap) (locs : List Loc) (eg : Nat → Nat), (∀ q, q < k → eg q = P / 65536 ^ q % 65536) → mAt D dT mm wd lf rt tc ty F sz Wk wz eg 0 sh H → va_S (mA mm) s.heap H locs → ∀ (ls : Array Slot), lv_has ls 11 [(8, .int (nI k)), (4, .int 0), (0, .ref (mm 0)), (1, .int (nI j)), (2, .int (nI j9))] → W p l e (headSpec w_M_times ({ frames := 4, cells := 0, slots := 0, locals := 90 })).room s m [.ref (mm 0), .int (nI j), .int (nI j9), .int (nI nn)].toArray below meth c H locs 0 0 (MQ below (z_Q (mA mm) (fun v H1 => v = some (.int (kp RV (nI j) (o_times RV (nI j9) (nI nn))).1) ∧ mI D dT mm tb tc (kp RV (nI j) (o_times RV (nI j9) (nI nn))).2 H1)) [.ref (mm 0), .int (nI j), .int (nI j9), .int (nI nn)].toArray s 0 0 (mA mm)) (F0 m 214 ls []) := by
                  intro n2149
                  induction n2149 with
                  | zero =>
                    intro k hk h2149
                    exact absurd h2149 (Nat.not_lt_zero _)
                  | succ n2149 ih214 =>
                    intro k hk h2149 H locs eg heg hM hS ls hl
                    refine lv_iload hx hb d_M_times_214 (lv_at hl 0 rfl) ?_
                    refine lv_aload_n hx hb d_M_times_216 rfl (lv_at hl 2 rfl) ?_
                    refine va_get (D := D) (ci := 10) (v := .int (nI 0)) (C := "ValueTreesModel") (T := T_M) (N := 12) hx hb ht in_M hown hK.1 hM.1 0 rfl rfl 10 (by decide) (ht _ q549) (fun _ h9 => h9) rfl d_M_times_217 ?_
                    refine lv_icmp_ge (tgt := 243) hx hb d_M_times_220 (by decide) (fun c121 => ?_) (fun c121 => ?_)
                    · have nc121 : 0 ≤ k := (nI_leI (a := 0) (b := k) (by omega) (by omega)).mp c121
                      have e9 : k = 0 := by omega
                      have hPK : P < 65536 ^ (0) := by rw [hP, nb_0 hnb, Nat.zero_mul]; exact Nat.pow_pos (by decide)
                      have hd : ∀ q, q < 0 → eg q < 65536 := fun q hq => by rw [heg q (by omega)]; exact Nat.mod_lt _ (by decide)
                      have hdc : 0 ≤ 140 := by omega
                      have hdP : dval eg (0) = P := by rw [dig_dval (fun q hq => heg q (by omega)), Nat.mod_eq_of_lt hPK]
                      refine lv_aload_n hx hb d_M_times_243 rfl (lv_at hl 2 rfl) ?_
                      refine z_callQ (va_runV (C := "ValueTreesModel") (As := []) (rest := []) ⟨hx, hb, hml, hown, hts⟩ (c_M_trim l D dT _ mm wd lf rt tc ty F sz Wk wz eg 0 sh hM hdc hd) ⟨callB_of 0 hts (gI gd_up gd_c q678) rfl rfl rfl (ht _ q10) (ht _ q675) hd_M_trim ⟨Nat.le_of_ble_eq_true rfl, Nat.le_of_ble_eq_true rfl⟩, ht _ q677, ht _ qs31⟩ (z_preV hK (va_recv hK.1 hM.1 (ci := 10) (q0 := 0) rfl rfl)) rfl rfl hl.1 rfl (lv_room (Nat.le_of_ble_eq_true rfl)) d_M_times_244 ⟨Nat.le_refl _, Nat.le_refl _⟩) hS (fun _ h9 => h9) (fun v123 H locs hv122 hz124 hf125 hS => ?_)
                      obtain ⟨rfl, ec, hec, hval8, htr, hM⟩ := hv122
                      refine W.eq (g2 := F0 m 247 ls []) rfl ?_
                      obtain ⟨hts1, hts2⟩ := times_sgn (z := z) (n := nn)
                      have hdv2 : dval eg ec = (z * 2 ^ nn).natAbs := by rw [hval8, hdP, hts2, hP]
                      have hzz : (z * 2 ^ nn).natAbs < 2 ^ 1024 := by rw [hts2]; exact hPl
                      have hz0 : ¬ z * 2 ^ nn < 0 := fun h9 => hzx (hts1.mp h9)
                      refine lv_aload_n hx hb d_M_times_247 rfl (lv_at hl 2 rfl) ?_
                      refine lv_iconst (v := 0) hx hb d_M_times_248 (by decide) ?_
                      refine m_put_wz hx hb ht hown hK hM hS (ht _ q547) 0 rfl d_M_times_249 (fun H locs hM hS => ?_)
                      have hM : mAt D dT mm wd lf rt tc ty F sz Wk 0 eg ec sh H := hM
                      have hW : wAt Wk ([] : List Nat) := wAt_nil hWk
                      have hM : mAt D dT mm wd lf rt tc ty F sz Wk (([] : List Nat).length) eg ec sh H := hM
                      refine lv_aload_n hx hb d_M_times_252 rfl (lv_at hl 2 rfl) ?_
                      refine lv_iload hx hb d_M_times_253 (lv_at hl 1 rfl) ?_
                      refine W.eq (g2 := F0 m 255 ls [.int (if z * 2 ^ nn < 0 then 1 else 0), .ref (mm 0)]) (by rw [if_neg hz0]) ?_
                      refine z_callQ (va_runV (C := "ValueTreesModel") (As := [.int (if z * 2 ^ nn < 0 then 1 else 0)]) (rest := []) ⟨hx, hb, hml, hown, hts⟩ (c_M_putNumber l D dT _ mm wd lf rt tc ty F sz Wk ([] : List Nat) eg ec sh hM hW (fun q hq => hd q (by omega)) (by omega) (z * 2 ^ nn) hzz hdv2 htr (by decide)) ⟨callB_of 1 hts (gI gd_up gd_c q627) rfl rfl rfl (ht _ q10) (ht _ q624) hd_M_putNumber ⟨Nat.le_of_ble_eq_true rfl, Nat.le_of_ble_eq_true rfl⟩, ht _ q626, ht _ qs20⟩ (z_preV hK (va_recv hK.1 hM.1 (ci := 10) (q0 := 0) rfl rfl)) rfl rfl hl.1 rfl (lv_room (Nat.le_of_ble_eq_true rfl)) d_M_times_255 ⟨Nat.le_refl _, Nat.le_refl _⟩) hS (fun _ h9 => h9) (fun v127 H locs hv126 hz128 hf129 hS => ?_)
                      obtain ⟨rfl, Wk, hW, hM⟩ := hv126
                      refine W.eq (g2 := F0 m 258 ls []) rfl ?_
                      refine lv_aload_n hx hb d_M_times_258 rfl (lv_at hl 2 rfl) ?_
                      refine lv_iload_n hx hb d_M_times_259 rfl (lv_at hl 3 rfl) ?_
                      refine lv_aload_n hx hb d_M_times_260 rfl (lv_at hl 2 rfl) ?_
                      refine va_get (D := D) (ci := 10) (v := .ref (mm 4)) (C := "ValueTreesModel") (T := T_M) (N := 12) hx hb ht in_M hown hK.1 hM.1 0 rfl rfl 4 (by decide) (ht _ q543) (fun _ h9 => h9) rfl d_M_times_261 ?_
                      refine lv_iload_n hx hb d_M_times_264 rfl (lv_at hl 4 rfl) ?_
                      refine z_iald hx hb hK (hM.1 4 _ rfl) j9 rfl (by omega) (by decide) d_M_times_265 ?_
                      rw [et8]
                      have hnn0 : (tW (tb (vty v8)) = 3 ∨ tW (tb (vty v8)) = 4) → 0 ≤ z * 2 ^ nn := fun h9 => by
                        have h8 := hw8
                        rw [ev] at h8
                        have h7 := h8.2.2.2.2.2.1 (by simpa [vty] using h9)
                        exact Int.not_lt.mp (fun h6 => absurd (hts1.mp h6) (by omega))
                      have ebs : ([] : List Nat) ++ (0 :: nser (z * 2 ^ nn)) = cs (.pow (.num (z * 2 ^ nn)) (vty v8)) := rfl
                      rw [ebs] at hW hM
                      refine z_callQ (va_runV (C := "ValueTreesModel") (As := [.int (nI j), .int (nI (vty v8))]) (rest := []) ⟨hx, hb, hml, hown, hts⟩ (c_M_keep l D dT _ mm wd lf rt tc ty F sz Wk (cs (.pow (.num (z * 2 ^ nn)) (vty v8))) eg ec sh hM hW j (vty v8) hj (by rw [← ebs]; have h9 := nser_len (z * 2 ^ nn); have h8 := nb_lt.mpr hzz; simp only [List.length_append, List.length_cons, List.length_nil, size4_len]; omega)) ⟨callB_of 2 hts (gI gd_up gd_c q647) rfl rfl rfl (ht _ q10) (ht _ q644) hd_M_keep ⟨Nat.le_of_ble_eq_true rfl, Nat.le_of_ble_eq_true rfl⟩, ht _ q646, ht _ qs25⟩ (z_preV hK (va_recv hK.1 hM.1 (ci := 10) (q0 := 0) rfl rfl)) rfl rfl hl.1 rfl (lv_room (Nat.le_of_ble_eq_true rfl)) d_M_times_266 ⟨Nat.le_refl _, Nat.le_refl _⟩) hS (fun _ h9 => h9) (fun v131 H locs hv130 hz132 hf133 hS => ?_)
                      rcases hv130 with ⟨hk1, rfl, hM⟩ | ⟨hk1, rfl, hM⟩
                      · refine W.eq (g2 := F0 m 269 ls [.int (-2)]) rfl ?_
                        refine z_iretQ hx hb hr hlocks d_M_times_269 hS (Nat.le_refl _) (Nat.le_refl _) ?_
                        have eo := show o_times RV (nI j9) (nI nn) = some (.pow (.num (z * 2 ^ nn)) (vty v8)) from (by rw [ti_ev hj9 hV8 ev hn9]; exact if_pos hlim)
                        rw [eo]
                        exact kO_done ⟨_, _, _, _, _, hW.1, Or.inl ⟨hk1, rfl, hM⟩⟩ hO hT hR hj ht8 ⟨rfl, rfl, rfl, hword, hzz, hnn0, fun h9 => by rw [hts2]; exact hw63 h9⟩
                      · refine W.eq (g2 := F0 m 269 ls [.int (nI (cs (.pow (.num (z * 2 ^ nn)) (vty v8))).length)]) rfl ?_
                        refine z_iretQ hx hb hr hlocks d_M_times_269 hS (Nat.le_refl _) (Nat.le_refl _) ?_
                        have eo := show o_times RV (nI j9) (nI nn) = some (.pow (.num (z * 2 ^ nn)) (vty v8)) from (by rw [ti_ev hj9 hV8 ev hn9]; exact if_pos hlim)
                        rw [eo]
                        exact kO_done ⟨_, _, _, _, _, hW.1, Or.inr ⟨hk1, rfl, hM⟩⟩ hO hT hR hj ht8 ⟨rfl, rfl, rfl, hword, hzz, hnn0, fun h9 => by rw [hts2]; exact hw63 h9⟩
                    · have nc121 : ¬ 0 ≤ k := fun h9 => c121 ((nI_leI (a := 0) (b := k) (by omega) (by omega)).mpr h9)
                      refine lv_aload_n hx hb d_M_times_223 rfl (lv_at hl 2 rfl) ?_
                      refine va_get (D := D) (ci := 10) (v := .ref (mm 8)) (C := "ValueTreesModel") (T := T_M) (N := 12) hx hb ht in_M hown hK.1 hM.1 0 rfl rfl 9 (by decide) (ht _ q548) (fun _ h9 => h9) rfl d_M_times_224 ?_
                      refine lv_iload hx hb d_M_times_227 (lv_at hl 0 rfl) ?_
                      refine lv_aload_n hx hb d_M_times_229 rfl (lv_at hl 2 rfl) ?_
                      refine va_get (D := D) (ci := 10) (v := .ref (mm 9)) (C := "ValueTreesModel") (T := T_M) (N := 12) hx hb ht in_M hown hK.1 hM.1 0 rfl rfl 11 (by decide) (ht _ q550) (fun _ h9 => h9) rfl d_M_times_230 ?_
                      refine lv_iload hx hb d_M_times_233 (lv_at hl 0 rfl) ?_
                      refine z_iald hx hb hK (hM.1 9 _ rfl) k rfl (by omega) (by decide) d_M_times_235 ?_
                      refine m_ast_dg hx hb hK hM hS k rfl (by omega) (sh k) rfl d_M_times_236 (fun H locs hM hS => ?_)
                      have hM : mAt D dT mm wd lf rt tc ty F sz Wk wz (updN eg k (sh k)) 0 sh H := hM
                      refine lv_iinc (v := (nI (k + 1))) (lv' := [(8, .int (nI (k + 1))), (4, .int 0), (0, .ref (mm 0)), (1, .int (nI j)), (2, .int (nI j9))]) hx hb d_M_times_237 hl (k := 0) rfl (nI_1 k) (by decide) rfl (fun ls hl => ?_)
                      refine lv_goto (tgt := 214) hx hb d_M_times_240 (by decide) ?_
                      exact ih214 (k + 1) (by omega) (by omega) _ _ _ (lt_s (fun q hq => by rw [updN_n (by omega)]; exact heg q hq) (by rw [updN_s]; exact hsh9 k (by omega))) hM hS ls (lv_sub hl [0, 1, 2, 3, 4] rfl)
                exact loop120 (0 + 1) 0 (by omega) (by omega) _ _ dg (fun q hq => absurd hq (Nat.not_lt_zero q)) hM hS ls (lv_sub hl [0, 4, 5, 6, 7] rfl)
              · refine lv_iload hx hb d_M_times_47 (lv_at hl 0 rfl) ?_
                refine lv_if_le (tgt := 78) hx hb d_M_times_49 (by decide) (fun c134 => absurd ((nI_leI (a := (nb z.natAbs)) (b := 0) (by omega) (by omega)).mp c134) (by omega)) (fun c134 => ?_)
                refine lv_iload hx hb d_M_times_52 (lv_at hl 0 rfl) ?_
                refine lv_iload_n hx hb d_M_times_54 rfl (lv_at hl 5 rfl) ?_
                refine lv_iadd hx hb d_M_times_55 ?_
                rw [show (((nI (nb z.natAbs)) + (nI nn)) : Int32) = nI ((nb z.natAbs) + nn) from nI_add (nb z.natAbs) nn]
                refine lv_aload_n hx hb d_M_times_56 rfl (lv_at hl 2 rfl) ?_
                refine lv_iload_n hx hb d_M_times_57 rfl (lv_at hl 4 rfl) ?_
                refine z_callR (va_runV (C := "ValueTreesModel") (As := [.int (nI j9)]) (rest := [.int (nI ((nb z.natAbs) + nn))]) ⟨hx, hb, hml, hown, hts⟩ (c_M_wordOf l D dT _ mm wd lf rt tc ty F sz Wk wz dg dc sh hM tb hO hT RV hR (nI j9)) ⟨callB_of 1 hts (gI gd_up gd_c q658) rfl rfl rfl (ht _ q10) (ht _ q655) hd_M_wordOf ⟨Nat.le_of_ble_eq_true rfl, Nat.le_of_ble_eq_true rfl⟩, ht _ q657, ht _ qs26⟩ (z_preV hK (va_recv hK.1 hM.1 (ci := 10) (q0 := 0) rfl rfl)) rfl rfl hl.1 rfl (lv_room (Nat.le_of_ble_eq_true rfl)) d_M_times_58 ⟨Nat.zero_le _, Nat.zero_le _⟩) (fun v136 hv135 => ?_)
                rw [rgs_nI hj9, hV8] at hv135
                subst hv135
                refine W.eq (g2 := F0 m 61 ls [.int (nI (tW (tb (vty v8)))), .int (nI ((nb z.natAbs) + nn))]) rfl ?_
                refine lv_iconst (v := 4) hx hb d_M_times_61 (by decide) ?_
                refine lv_icmp_ne (tgt := 70) hx hb d_M_times_62 (by decide) (fun c137 => ?_) (fun c137 => ?_)
                · have nc137 : ¬ (tW (tb (vty v8))) = 4 := fun h9 => c137 ((nI_eq (a := (tW (tb (vty v8)))) (b := 4) (by omega) (by omega)).mpr h9)
                  refine lv_sipush (v := 1024) hx hb d_M_times_70 (by decide) ?_
                  refine lv_icmp_le (tgt := 78) hx hb d_M_times_73 (by decide) (fun c138 => ?_) (fun c138 => ?_)
                  · have nc138 : ((nb z.natAbs) + nn) ≤ 1024 := (nI_leI (a := ((nb z.natAbs) + nn)) (b := 1024) (by omega) (by omega)).mp c138
                    have hlim0 : nb z.natAbs + nn ≤ (if vty v8 = 4 then 63 else 1024) := by split <;> omega
                    have hlim : nb z.natAbs = 0 ∨ nb z.natAbs + nn ≤ (if vty v8 = 4 then 63 else 1024) := Or.inr hlim0
                    have hPl : z.natAbs * 2 ^ nn < 2 ^ 1024 := mul_lt2 (by have h9 := hlim0; split at h9 <;> omega)
                    have hw63 : tW (tb (vty v8)) = 4 → z.natAbs * 2 ^ nn < 2 ^ 63 := fun h9 => mul_lt2 (by rw [if_pos (by omega)] at hlim0; exact hlim0)
                    obtain ⟨P, hP⟩ : ∃ y, y = z.natAbs * 2 ^ nn := ⟨_, rfl⟩
                    refine lv_iload_n hx hb d_M_times_78 rfl (lv_at hl 5 rfl) ?_
                    refine lv_bipush (v := 16) hx hb d_M_times_79 (by decide) ?_
                    refine lv_idiv hx hb d_M_times_81 (by decide) ?_
                    rw [show (((nI nn) / 16) : Int32) = nI (nn / 16) from pk_div (a := nn) (d := 16) (by omega) (by decide) (by decide)]
                    refine lv_istore (lv' := [(6, .int (nI (nn / 16))), (5, .int (nI (nb z.natAbs))), (4, .int 0), (0, .ref (mm 0)), (1, .int (nI j)), (2, .int (nI j9)), (3, .int (nI nn))]) hx hb d_M_times_82 hl (by decide) rfl (fun ls hl => ?_)
                    refine lv_iload_n hx hb d_M_times_84 rfl (lv_at hl 6 rfl) ?_
                    refine lv_bipush (v := 16) hx hb d_M_times_85 (by decide) ?_
                    refine lv_irem hx hb d_M_times_87 (by decide) ?_
                    rw [show (((nI nn) - (nI nn) / 16 * 16) : Int32) = nI (nn % 16) from pk_rem (a := nn) (d := 16) (by omega) (by decide) (by decide)]
                    refine lv_istore (lv' := [(7, .int (nI (nn % 16))), (6, .int (nI (nn / 16))), (5, .int (nI (nb z.natAbs))), (4, .int 0), (0, .ref (mm 0)), (1, .int (nI j)), (2, .int (nI j9)), (3, .int (nI nn))]) hx hb d_M_times_88 hl (by decide) rfl (fun ls hl => ?_)
                    refine lv_iload hx hb d_M_times_90 (lv_at hl 2 rfl) ?_
                    refine lv_if_ne (tgt := 99) hx hb d_M_times_92 (by decide) (fun c139 => ?_) (fun c139 => absurd ((nI_eq (a := (nb z.natAbs)) (b := 0) (by omega) (by omega)).mp c139) (by omega))
                    refine lv_aload_n hx hb d_M_times_99 rfl (lv_at hl 4 rfl) ?_
                    refine va_get (D := D) (ci := 10) (v := .int (nI dc)) (C := "ValueTreesModel") (T := T_M) (N := 12) hx hb ht in_M hown hK.1 hM.1 0 rfl rfl 10 (by decide) (ht _ q549) (fun _ h9 => h9) rfl d_M_times_100 ?_
                    refine lv_iload hx hb d_M_times_103 (lv_at hl 1 rfl) ?_
                    refine lv_iadd hx hb d_M_times_105 ?_
                    rw [show (((nI dc) + (nI (nn / 16))) : Int32) = nI (dc + (nn / 16)) from nI_add dc (nn / 16)]
                    refine lv_istore (lv' := [(8, .int (nI (dc + (nn / 16)))), (7, .int (nI (nn % 16))), (6, .int (nI (nn / 16))), (5, .int (nI (nb z.natAbs))), (4, .int 0), (0, .ref (mm 0)), (1, .int (nI j)), (2, .int (nI j9)), (3, .int (nI nn))]) hx hb d_M_times_106 hl (by decide) rfl (fun ls hl => ?_)
                    rw [show nI (dc + nn / 16) = nI (dc + nn / 16 + 1) - 1 from (nI_pred _).symm] at hl
                    have loop140 : ∀ (n1089 : Nat) (i : Nat), (i ≤ dc + nn / 16 + 1) → i < n1089 → ∀ (H : Heap) (locs : List Loc) (sh : Nat → Nat), (∀ q, i ≤ q → q < dc + nn / 16 + 1 → sh q = P / 65536 ^ q % 65536) → mAt D dT mm wd lf rt tc ty F sz Wk wz dg dc sh H → va_S (mA mm) s.heap H locs → ∀ (ls : Array Slot), lv_has ls 11 [(8, .int (nI i - 1)), (6, .int (nI (nn / 16))), (7, .int (nI (nn % 16))), (5, .int (nI (nb z.natAbs))), (4, .int 0), (0, .ref (mm 0)), (1, .int (nI j)), (2, .int (nI j9)), (3, .int (nI nn))] → W p l e (headSpec w_M_times ({ frames := 4, cells := 0, slots := 0, locals := 90 })).room s m [.ref (mm 0), .int (nI j), .int (nI j9), .int (nI nn)].toArray below meth c H locs 0 0 (MQ below (z_Q (mA mm) (fun v H1 => v = some (.int (kp RV (nI j) (o_times RV (nI j9) (nI nn))).1) ∧ mI D dT mm tb tc (kp RV (nI j) (o_times RV (nI j9) (nI nn))).2 H1)) [.ref (mm 0), .int (nI j), .int (nI j9), .int (nI nn)].toArray s 0 0 (mA mm)) (F0 m 108 ls []) := by
                      intro n1089
                      induction n1089 with
                      | zero =>
                        intro i hi h1089
                        exact absurd h1089 (Nat.not_lt_zero _)
                      | succ n1089 ih108 =>
                        intro i hi h1089 H locs sh hsh hM hS ls hl
                        cases i with
                        | zero =>
                          rw [show nI 0 - 1 = (-1 : Int32) by decide] at hl
                          refine lv_iload hx hb d_M_times_108 (lv_at hl 0 rfl) ?_
                          refine lv_if_lt (tgt := 189) hx hb d_M_times_110 (by decide) (fun _ => ?_) (fun c141 => absurd c141 (by decide))
                          refine lv_aload_n hx hb d_M_times_189 rfl (lv_at hl 5 rfl) ?_
                          refine lv_iload hx hb d_M_times_190 (lv_at hl 3 rfl) ?_
                          refine lv_if_ne (tgt := 199) hx hb d_M_times_192 (by decide) (fun c142 => ?_) (fun c142 => absurd ((nI_eq (a := (nb z.natAbs)) (b := 0) (by omega) (by omega)).mp c142) (by omega))
                          refine lv_aload_n hx hb d_M_times_199 rfl (lv_at hl 5 rfl) ?_
                          refine va_get (D := D) (ci := 10) (v := .int (nI dc)) (C := "ValueTreesModel") (T := T_M) (N := 12) hx hb ht in_M hown hK.1 hM.1 0 rfl rfl 10 (by decide) (ht _ q549) (fun _ h9 => h9) rfl d_M_times_200 ?_
                          refine lv_iload hx hb d_M_times_203 (lv_at hl 1 rfl) ?_
                          refine lv_iadd hx hb d_M_times_205 ?_
                          rw [show (((nI dc) + (nI (nn / 16))) : Int32) = nI (dc + (nn / 16)) from nI_add dc (nn / 16)]
                          refine lv_iconst (v := 1) hx hb d_M_times_206 (by decide) ?_
                          refine lv_iadd hx hb d_M_times_207 ?_
                          rw [show (((nI (dc + (nn / 16))) + 1) : Int32) = nI ((dc + (nn / 16)) + 1) from nI_add (dc + (nn / 16)) 1]
                          refine m_put_dc hx hb ht hown hK hM hS (ht _ q549) ((dc + (nn / 16)) + 1) rfl d_M_times_208 (fun H locs hM hS => ?_)
                          have hM : mAt D dT mm wd lf rt tc ty F sz Wk wz dg ((dc + (nn / 16)) + 1) sh H := hM
                          refine lv_iconst (v := 0) hx hb d_M_times_211 (by decide) ?_
                          refine lv_istore (lv' := [(8, .int 0), (6, .int (nI (nn / 16))), (7, .int (nI (nn % 16))), (5, .int (nI (nb z.natAbs))), (4, .int 0), (0, .ref (mm 0)), (1, .int (nI j)), (2, .int (nI j9)), (3, .int (nI nn))]) hx hb d_M_times_212 hl (by decide) rfl (fun ls hl => ?_)
                          have hsh9 : ∀ q, q < (dc + (nn / 16)) + 1 → sh q = P / 65536 ^ q % 65536 := (fun q h2 => hsh q (Nat.zero_le q) h2)
                          have loop143 : ∀ (n2149 : Nat) (k : Nat), (k ≤ (dc + (nn / 16)) + 1) → (dc + (nn / 16)) + 1 - k < n2149 → ∀ (H : Heap) (locs : List Loc) (eg : Nat → Nat), (∀ q, q < k → eg q = P / 65536 ^ q % 65536) → mAt D dT mm wd lf rt tc ty F sz Wk wz eg ((dc + (nn / 16)) + 1) sh H → va_S (mA mm) s.heap H locs → ∀ (ls : Array Slot), lv_has ls 11 [(8, .int (nI k)), (4, .int 0), (0, .ref (mm 0)), (1, .int (nI j)), (2, .int (nI j9))] → W p l e (headSpec w_M_times ({ frames := 4, cells := 0, slots := 0, locals := 90 })).room s m [.ref (mm 0), .int (nI j), .int (nI j9), .int (nI nn)].toArray below meth c H locs 0 0 (MQ below (z_Q (mA mm) (fun v H1 => v = some (.int (kp RV (nI j) (o_times RV (nI j9) (nI nn))).1) ∧ mI D dT mm tb tc (kp RV (nI j) (o_times RV (nI j9) (nI nn))).2 H1)) [.ref (mm 0), .int (nI j), .int (nI j9), .int (nI nn)].toArray s 0 0 (mA mm)) (F0 m 214 ls []) := by
                            intro n2149
                            induction n2149 with
                            | zero =>
                              intro k hk h2149
                              exact absurd h2149 (Nat.not_lt_zero _)
                            | succ n2149 ih214 =>
                              intro k hk h2149 H locs eg heg hM hS ls hl
                              refine lv_iload hx hb d_M_times_214 (lv_at hl 0 rfl) ?_
                              refine lv_aload_n hx hb d_M_times_216 rfl (lv_at hl 2 rfl) ?_
                              refine va_get (D := D) (ci := 10) (v := .int (nI ((dc + (nn / 16)) + 1))) (C := "ValueTreesModel") (T := T_M) (N := 12) hx hb ht in_M hown hK.1 hM.1 0 rfl rfl 10 (by decide) (ht _ q549) (fun _ h9 => h9) rfl d_M_times_217 ?_
                              refine lv_icmp_ge (tgt := 243) hx hb d_M_times_220 (by decide) (fun c144 => ?_) (fun c144 => ?_)
                              · have nc144 : ((dc + (nn / 16)) + 1) ≤ k := (nI_leI (a := ((dc + (nn / 16)) + 1)) (b := k) (by omega) (by omega)).mp c144
                                have e9 : k = (dc + (nn / 16)) + 1 := by omega
                                have hPK : P < 65536 ^ ((dc + (nn / 16)) + 1) := by rw [hP, p65]; have h9 := dval_lt hdx; rw [hvx] at h9; exact Nat.lt_of_lt_of_le (Nat.mul_lt_mul_of_pos_right h9 (Nat.two_pow_pos nn)) (by rw [← Nat.pow_add]; exact Nat.pow_le_pow_right (by decide) (by omega))
                                have hd : ∀ q, q < (dc + (nn / 16)) + 1 → eg q < 65536 := fun q hq => by rw [heg q (by omega)]; exact Nat.mod_lt _ (by decide)
                                have hdc : (dc + (nn / 16)) + 1 ≤ 140 := by omega
                                have hdP : dval eg ((dc + (nn / 16)) + 1) = P := by rw [dig_dval (fun q hq => heg q (by omega)), Nat.mod_eq_of_lt hPK]
                                refine lv_aload_n hx hb d_M_times_243 rfl (lv_at hl 2 rfl) ?_
                                refine z_callQ (va_runV (C := "ValueTreesModel") (As := []) (rest := []) ⟨hx, hb, hml, hown, hts⟩ (c_M_trim l D dT _ mm wd lf rt tc ty F sz Wk wz eg ((dc + (nn / 16)) + 1) sh hM hdc hd) ⟨callB_of 0 hts (gI gd_up gd_c q678) rfl rfl rfl (ht _ q10) (ht _ q675) hd_M_trim ⟨Nat.le_of_ble_eq_true rfl, Nat.le_of_ble_eq_true rfl⟩, ht _ q677, ht _ qs31⟩ (z_preV hK (va_recv hK.1 hM.1 (ci := 10) (q0 := 0) rfl rfl)) rfl rfl hl.1 rfl (lv_room (Nat.le_of_ble_eq_true rfl)) d_M_times_244 ⟨Nat.le_refl _, Nat.le_refl _⟩) hS (fun _ h9 => h9) (fun v146 H locs hv145 hz147 hf148 hS => ?_)
                                obtain ⟨rfl, ec, hec, hval8, htr, hM⟩ := hv145
                                refine W.eq (g2 := F0 m 247 ls []) rfl ?_
                                obtain ⟨hts1, hts2⟩ := times_sgn (z := z) (n := nn)
                                have hdv2 : dval eg ec = (z * 2 ^ nn).natAbs := by rw [hval8, hdP, hts2, hP]
                                have hzz : (z * 2 ^ nn).natAbs < 2 ^ 1024 := by rw [hts2]; exact hPl
                                have hz0 : ¬ z * 2 ^ nn < 0 := fun h9 => hzx (hts1.mp h9)
                                refine lv_aload_n hx hb d_M_times_247 rfl (lv_at hl 2 rfl) ?_
                                refine lv_iconst (v := 0) hx hb d_M_times_248 (by decide) ?_
                                refine m_put_wz hx hb ht hown hK hM hS (ht _ q547) 0 rfl d_M_times_249 (fun H locs hM hS => ?_)
                                have hM : mAt D dT mm wd lf rt tc ty F sz Wk 0 eg ec sh H := hM
                                have hW : wAt Wk ([] : List Nat) := wAt_nil hWk
                                have hM : mAt D dT mm wd lf rt tc ty F sz Wk (([] : List Nat).length) eg ec sh H := hM
                                refine lv_aload_n hx hb d_M_times_252 rfl (lv_at hl 2 rfl) ?_
                                refine lv_iload hx hb d_M_times_253 (lv_at hl 1 rfl) ?_
                                refine W.eq (g2 := F0 m 255 ls [.int (if z * 2 ^ nn < 0 then 1 else 0), .ref (mm 0)]) (by rw [if_neg hz0]) ?_
                                refine z_callQ (va_runV (C := "ValueTreesModel") (As := [.int (if z * 2 ^ nn < 0 then 1 else 0)]) (rest := []) ⟨hx, hb, hml, hown, hts⟩ (c_M_putNumber l D dT _ mm wd lf rt tc ty F sz Wk ([] : List Nat) eg ec sh hM hW (fun q hq => hd q (by omega)) (by omega) (z * 2 ^ nn) hzz hdv2 htr (by decide)) ⟨callB_of 1 hts (gI gd_up gd_c q627) rfl rfl rfl (ht _ q10) (ht _ q624) hd_M_putNumber ⟨Nat.le_of_ble_eq_true rfl, Nat.le_of_ble_eq_true rfl⟩, ht _ q626, ht _ qs20⟩ (z_preV hK (va_recv hK.1 hM.1 (ci := 10) (q0 := 0) rfl rfl)) rfl rfl hl.1 rfl (lv_room (Nat.le_of_ble_eq_true rfl)) d_M_times_255 ⟨Nat.le_refl _, Nat.le_refl _⟩) hS (fun _ h9 => h9) (fun v150 H locs hv149 hz151 hf152 hS => ?_)
                                obtain ⟨rfl, Wk, hW, hM⟩ := hv149
                                refine W.eq (g2 := F0 m 258 ls []) rfl ?_
                                refine lv_aload_n hx hb d_M_times_258 rfl (lv_at hl 2 rfl) ?_
                                refine lv_iload_n hx hb d_M_times_259 rfl (lv_at hl 3 rfl) ?_
                                refine lv_aload_n hx hb d_M_times_260 rfl (lv_at hl 2 rfl) ?_
                                refine va_get (D := D) (ci := 10) (v := .ref (mm 4)) (C := "ValueTreesModel") (T := T_M) (N := 12) hx hb ht in_M hown hK.1 hM.1 0 rfl rfl 4 (by decide) (ht _ q543) (fun _ h9 => h9) rfl d_M_times_261 ?_
                                refine lv_iload_n hx hb d_M_times_264 rfl (lv_at hl 4 rfl) ?_
                                refine z_iald hx hb hK (hM.1 4 _ rfl) j9 rfl (by omega) (by decide) d_M_times_265 ?_
                                rw [et8]
                                have hnn0 : (tW (tb (vty v8)) = 3 ∨ tW (tb (vty v8)) = 4) → 0 ≤ z * 2 ^ nn := fun h9 => by
                                  have h8 := hw8
                                  rw [ev] at h8
                                  have h7 := h8.2.2.2.2.2.1 (by simpa [vty] using h9)
                                  exact Int.not_lt.mp (fun h6 => absurd (hts1.mp h6) (by omega))
                                have ebs : ([] : List Nat) ++ (0 :: nser (z * 2 ^ nn)) = cs (.pow (.num (z * 2 ^ nn)) (vty v8)) := rfl
                                rw [ebs] at hW hM
                                refine z_callQ (va_runV (C := "ValueTreesModel") (As := [.int (nI j), .int (nI (vty v8))]) (rest := []) ⟨hx, hb, hml, hown, hts⟩ (c_M_keep l D dT _ mm wd lf rt tc ty F sz Wk (cs (.pow (.num (z * 2 ^ nn)) (vty v8))) eg ec sh hM hW j (vty v8) hj (by rw [← ebs]; have h9 := nser_len (z * 2 ^ nn); have h8 := nb_lt.mpr hzz; simp only [List.length_append, List.length_cons, List.length_nil, size4_len]; omega)) ⟨callB_of 2 hts (gI gd_up gd_c q647) rfl rfl rfl (ht _ q10) (ht _ q644) hd_M_keep ⟨Nat.le_of_ble_eq_true rfl, Nat.le_of_ble_eq_true rfl⟩, ht _ q646, ht _ qs25⟩ (z_preV hK (va_recv hK.1 hM.1 (ci := 10) (q0 := 0) rfl rfl)) rfl rfl hl.1 rfl (lv_room (Nat.le_of_ble_eq_true rfl)) d_M_times_266 ⟨Nat.le_refl _, Nat.le_refl _⟩) hS (fun _ h9 => h9) (fun v154 H locs hv153 hz155 hf156 hS => ?_)
                                rcases hv153 with ⟨hk1, rfl, hM⟩ | ⟨hk1, rfl, hM⟩
                                · refine W.eq (g2 := F0 m 269 ls [.int (-2)]) rfl ?_
                                  refine z_iretQ hx hb hr hlocks d_M_times_269 hS (Nat.le_refl _) (Nat.le_refl _) ?_
                                  have eo := show o_times RV (nI j9) (nI nn) = some (.pow (.num (z * 2 ^ nn)) (vty v8)) from (by rw [ti_ev hj9 hV8 ev hn9]; exact if_pos hlim)
                                  rw [eo]
                                  exact kO_done ⟨_, _, _, _, _, hW.1, Or.inl ⟨hk1, rfl, hM⟩⟩ hO hT hR hj ht8 ⟨rfl, rfl, rfl, hword, hzz, hnn0, fun h9 => by rw [hts2]; exact hw63 h9⟩
                                · refine W.eq (g2 := F0 m 269 ls [.int (nI (cs (.pow (.num (z * 2 ^ nn)) (vty v8))).length)]) rfl ?_
                                  refine z_iretQ hx hb hr hlocks d_M_times_269 hS (Nat.le_refl _) (Nat.le_refl _) ?_
                                  have eo := show o_times RV (nI j9) (nI nn) = some (.pow (.num (z * 2 ^ nn)) (vty v8)) from (by rw [ti_ev hj9 hV8 ev hn9]; exact if_pos hlim)
                                  rw [eo]
                                  exact kO_done ⟨_, _, _, _, _, hW.1, Or.inr ⟨hk1, rfl, hM⟩⟩ hO hT hR hj ht8 ⟨rfl, rfl, rfl, hword, hzz, hnn0, fun h9 => by rw [hts2]; exact hw63 h9⟩
                              · have nc144 : ¬ ((dc + (nn / 16)) + 1) ≤ k := fun h9 => c144 ((nI_leI (a := ((dc + (nn / 16)) + 1)) (b := k) (by omega) (by omega)).mpr h9)
                                refine lv_aload_n hx hb d_M_times_223 rfl (lv_at hl 2 rfl) ?_
                                refine va_get (D := D) (ci := 10) (v := .ref (mm 8)) (C := "ValueTreesModel") (T := T_M) (N := 12) hx hb ht in_M hown hK.1 hM.1 0 rfl rfl 9 (by decide) (ht _ q548) (fun _ h9 => h9) rfl d_M_times_224 ?_
                                refine lv_iload hx hb d_M_times_227 (lv_at hl 0 rfl) ?_
                                refine lv_aload_n hx hb d_M_times_229 rfl (lv_at hl 2 rfl) ?_
                                refine va_get (D := D) (ci := 10) (v := .ref (mm 9)) (C := "ValueTreesModel") (T := T_M) (N := 12) hx hb ht in_M hown hK.1 hM.1 0 rfl rfl 11 (by decide) (ht _ q550) (fun _ h9 => h9) rfl d_M_times_230 ?_
                                refine lv_iload hx hb d_M_times_233 (lv_at hl 0 rfl) ?_
                                refine z_iald hx hb hK (hM.1 9 _ rfl) k rfl (by omega) (by decide) d_M_times_235 ?_
                                refine m_ast_dg hx hb hK hM hS k rfl (by omega) (sh k) rfl d_M_times_236 (fun H locs hM hS => ?_)
                                have hM : mAt D dT mm wd lf rt tc ty F sz Wk wz (updN eg k (sh k)) ((dc + (nn / 16)) + 1) sh H := hM
                                refine lv_iinc (v := (nI (k + 1))) (lv' := [(8, .int (nI (k + 1))), (4, .int 0), (0, .ref (mm 0)), (1, .int (nI j)), (2, .int (nI j9))]) hx hb d_M_times_237 hl (k := 0) rfl (nI_1 k) (by decide) rfl (fun ls hl => ?_)
                                refine lv_goto (tgt := 214) hx hb d_M_times_240 (by decide) ?_
                                exact ih214 (k + 1) (by omega) (by omega) _ _ _ (lt_s (fun q hq => by rw [updN_n (by omega)]; exact heg q hq) (by rw [updN_s]; exact hsh9 k (by omega))) hM hS ls (lv_sub hl [0, 1, 2, 3, 4] rfl)
                          exact loop143 ((dc + (nn / 16)) + 1 + 1) 0 (by omega) (by omega) _ _ dg (fun q hq => absurd hq (Nat.not_lt_zero q)) hM hS ls (lv_sub hl [0, 4, 5, 6, 7] rfl)
                        | succ i =>
                          rw [nI_pred] at hl
                          refine lv_iload hx hb d_M_times_108 (lv_at hl 0 rfl) ?_
                          refine lv_if_lt (tgt := 189) hx hb d_M_times_110 (by decide) (fun c157 => absurd c157 (nI_pos (by omega))) (fun c157 => ?_)
                          refine lv_iload hx hb d_M_times_113 (lv_at hl 0 rfl) ?_
                          refine lv_iload hx hb d_M_times_115 (lv_at hl 1 rfl) ?_
                          refine lv_icmp_lt (tgt := 132) hx hb d_M_times_117 (by decide) (fun c158 => ?_) (fun c158 => ?_)
                          · have nc158 : i < (nn / 16) := (nI_ltI (a := i) (b := (nn / 16)) (by omega) (by omega)).mp c158
                            refine lv_iconst (v := 0) hx hb d_M_times_132 (by decide) ?_
                            refine lv_istore (lv' := [(9, .int 0), (8, .int (nI i)), (6, .int (nI (nn / 16))), (7, .int (nI (nn % 16))), (5, .int (nI (nb z.natAbs))), (4, .int 0), (0, .ref (mm 0)), (1, .int (nI j)), (2, .int (nI j9)), (3, .int (nI nn))]) hx hb d_M_times_133 hl (by decide) rfl (fun ls hl => ?_)
                            refine lv_iload hx hb d_M_times_135 (lv_at hl 1 rfl) ?_
                            refine lv_iload hx hb d_M_times_137 (lv_at hl 2 rfl) ?_
                            refine lv_icmp_le (tgt := 156) hx hb d_M_times_139 (by decide) (fun c159 => ?_) (fun c159 => ?_)
                            · have nc159 : i ≤ (nn / 16) := (nI_leI (a := i) (b := (nn / 16)) (by omega) (by omega)).mp c159
                              refine lv_iconst (v := 0) hx hb d_M_times_156 (by decide) ?_
                              refine lv_istore (lv' := [(10, .int 0), (9, .int 0), (8, .int (nI i)), (6, .int (nI (nn / 16))), (7, .int (nI (nn % 16))), (5, .int (nI (nb z.natAbs))), (4, .int 0), (0, .ref (mm 0)), (1, .int (nI j)), (2, .int (nI j9)), (3, .int (nI nn))]) hx hb d_M_times_157 hl (by decide) rfl (fun ls hl => ?_)
                              refine lv_aload_n hx hb d_M_times_159 rfl (lv_at hl 7 rfl) ?_
                              refine va_get (D := D) (ci := 10) (v := .ref (mm 9)) (C := "ValueTreesModel") (T := T_M) (N := 12) hx hb ht in_M hown hK.1 hM.1 0 rfl rfl 11 (by decide) (ht _ q550) (fun _ h9 => h9) rfl d_M_times_160 ?_
                              refine lv_iload hx hb d_M_times_163 (lv_at hl 2 rfl) ?_
                              refine lv_iload hx hb d_M_times_165 (lv_at hl 1 rfl) ?_
                              refine lv_iload hx hb d_M_times_167 (lv_at hl 4 rfl) ?_
                              refine lv_ishl hx hb d_M_times_169 ?_
                              rw [show ((0 <<< ((nI (nn % 16)) &&& 31)) : Int32) = nI (0 * 2 ^ (nn % 16)) from nI_shlr (n := 0) (r := nn % 16) (by omega) (Nat.lt_trans (hi_lt (by omega) (by omega)) (by decide))]
                              refine lv_iload hx hb d_M_times_170 (lv_at hl 0 rfl) ?_
                              refine lv_bipush (v := 16) hx hb d_M_times_172 (by decide) ?_
                              refine lv_iload hx hb d_M_times_174 (lv_at hl 4 rfl) ?_
                              refine lv_isub hx hb d_M_times_176 ?_
                              rw [show ((16 - (nI (nn % 16))) : Int32) = nI (16 - (nn % 16)) from pk_sub (a := 16) (b := (nn % 16)) (by omega)]
                              refine lv_ishr hx hb d_M_times_177 ?_
                              rw [show ((0 >>> ((nI (16 - (nn % 16))) &&& 31)) : Int32) = nI (0 / 2 ^ (16 - nn % 16)) from nI_shr (n := 0) (r := 16 - nn % 16) (by omega) (by omega)]
                              refine lv_ior hx hb d_M_times_178 ?_
                              rw [show (((nI (0 * 2 ^ (nn % 16))) ||| (nI (0 / 2 ^ (16 - nn % 16)))) : Int32) = nI (0 * 2 ^ (nn % 16) + 0 / 2 ^ (16 - nn % 16)) from nI_or_r (lo_lt (by omega) (by omega))]
                              refine lv_ldc (v := 65535) hx hb hown (hts (.constant "ValueTreesModel" 130 65535) (by decide +kernel)) d_M_times_179 ?_
                              refine lv_iand hx hb d_M_times_181 ?_
                              rw [show (((nI (0 * 2 ^ (nn % 16) + 0 / 2 ^ (16 - nn % 16))) &&& 65535) : Int32) = nI ((0 * 2 ^ (nn % 16) + 0 / 2 ^ (16 - nn % 16)) % 65536) from nI_and65535 (by have h9 := hi_lt (x := 0) (r := nn % 16) (by omega) (by omega); have h8 := lo_lt (x := 0) (r := nn % 16) (by omega) (by omega); have h7 : 2 ^ (nn % 16) ≤ 2 ^ 15 := Nat.pow_le_pow_right (by decide) (by omega); omega)]
                              have hnew : (0 * 2 ^ (nn % 16) + 0 / 2 ^ (16 - nn % 16)) % 65536 = P / 65536 ^ i % 65536 := by
                                rw [hP, shl_0 (by omega), Nat.zero_mul, Nat.zero_div]
                              refine m_ast_sh hx hb hK hM hS i rfl (by omega) ((0 * 2 ^ (nn % 16) + 0 / 2 ^ (16 - nn % 16)) % 65536) rfl d_M_times_182 (fun H locs hM hS => ?_)
                              have hM : mAt D dT mm wd lf rt tc ty F sz Wk wz dg dc (updN sh i ((0 * 2 ^ (nn % 16) + 0 / 2 ^ (16 - nn % 16)) % 65536)) H := hM
                              refine lv_iinc (v := (nI i - 1)) (lv' := [(8, .int (nI i - 1)), (10, .int 0), (9, .int 0), (6, .int (nI (nn / 16))), (7, .int (nI (nn % 16))), (5, .int (nI (nb z.natAbs))), (4, .int 0), (0, .ref (mm 0)), (1, .int (nI j)), (2, .int (nI j9)), (3, .int (nI nn))]) hx hb d_M_times_183 hl (k := 2) rfl (by rw [Int32.sub_eq_add_neg]; rfl) (by decide) rfl (fun ls hl => ?_)
                              refine lv_goto (tgt := 108) hx hb d_M_times_186 (by decide) ?_
                              exact ih108 i (by omega) (by omega) _ _ _ (fun q h1 h2 => by rcases Nat.eq_or_lt_of_le h1 with e | e <;> first | (subst e; rw [updN_s]; exact hnew) | (rw [updN_n (by omega)]; exact hsh q e h2)) hM hS ls (lv_sub hl [0, 3, 4, 5, 6, 7, 8, 9, 10] rfl)
                            · have nc159 : ¬ i ≤ (nn / 16) := fun h9 => c159 ((nI_leI (a := i) (b := (nn / 16)) (by omega) (by omega)).mpr h9)
                              refine lv_aload_n hx hb d_M_times_142 rfl (lv_at hl 6 rfl) ?_
                              refine lv_iload hx hb d_M_times_143 (lv_at hl 1 rfl) ?_
                              refine lv_iload hx hb d_M_times_145 (lv_at hl 2 rfl) ?_
                              refine lv_isub hx hb d_M_times_147 ?_
                              rw [show (((nI i) - (nI (nn / 16))) : Int32) = nI (i - (nn / 16)) from pk_sub (a := i) (b := (nn / 16)) (by omega)]
                              refine lv_iconst (v := 1) hx hb d_M_times_148 (by decide) ?_
                              refine lv_isub hx hb d_M_times_149 ?_
                              rw [show (((nI (i - (nn / 16))) - 1) : Int32) = nI ((i - (nn / 16)) - 1) from pk_sub (a := (i - (nn / 16))) (b := 1) (by omega)]
                              refine z_callR (va_runV (C := "ValueTreesModel") (As := [.int (nI ((i - (nn / 16)) - 1))]) (rest := []) ⟨hx, hb, hml, hown, hts⟩ (c_M_digitAt l D dT _ mm wd lf rt tc ty F sz Wk wz dg dc sh hM ((i - (nn / 16)) - 1) (by omega) hdc) ⟨callB_of 1 hts (gI gd_up gd_c q643) rfl rfl rfl (ht _ q10) (ht _ q640) hd_M_digitAt ⟨Nat.le_of_ble_eq_true rfl, Nat.le_of_ble_eq_true rfl⟩, ht _ q642, ht _ qs24⟩ (z_preV hK (va_recv hK.1 hM.1 (ci := 10) (q0 := 0) rfl rfl)) rfl rfl hl.1 rfl (lv_room (Nat.le_of_ble_eq_true rfl)) d_M_times_150 ⟨Nat.zero_le _, Nat.zero_le _⟩) (fun v161 hv160 => ?_)
                              obtain ⟨g162, hg162⟩ : ∃ y, y = (if (i - (nn / 16)) - 1 < dc then dg ((i - (nn / 16)) - 1) else 0) := ⟨_, rfl⟩
                              have hv160 : v161 = .int (nI g162) := by rw [hg162]; exact hv160
                              subst hv160
                              have hg162l : g162 < 65536 := by rw [hg162]; exact dgat hd _
                              have hg162d : g162 = z.natAbs / 2 ^ (16 * ((i - (nn / 16)) - 1)) % 65536 := by rw [hg162, digit_of hd, hdv]
                              refine lv_goto (tgt := 157) hx hb d_M_times_153 (by decide) ?_
                              refine lv_istore (lv' := [(10, .int (nI g162)), (9, .int 0), (8, .int (nI i)), (6, .int (nI (nn / 16))), (7, .int (nI (nn % 16))), (5, .int (nI (nb z.natAbs))), (4, .int 0), (0, .ref (mm 0)), (1, .int (nI j)), (2, .int (nI j9)), (3, .int (nI nn))]) hx hb d_M_times_157 hl (by decide) rfl (fun ls hl => ?_)
                              refine lv_aload_n hx hb d_M_times_159 rfl (lv_at hl 7 rfl) ?_
                              refine va_get (D := D) (ci := 10) (v := .ref (mm 9)) (C := "ValueTreesModel") (T := T_M) (N := 12) hx hb ht in_M hown hK.1 hM.1 0 rfl rfl 11 (by decide) (ht _ q550) (fun _ h9 => h9) rfl d_M_times_160 ?_
                              refine lv_iload hx hb d_M_times_163 (lv_at hl 2 rfl) ?_
                              refine lv_iload hx hb d_M_times_165 (lv_at hl 1 rfl) ?_
                              refine lv_iload hx hb d_M_times_167 (lv_at hl 4 rfl) ?_
                              refine lv_ishl hx hb d_M_times_169 ?_
                              rw [show ((0 <<< ((nI (nn % 16)) &&& 31)) : Int32) = nI (0 * 2 ^ (nn % 16)) from nI_shlr (n := 0) (r := nn % 16) (by omega) (Nat.lt_trans (hi_lt (by omega) (by omega)) (by decide))]
                              refine lv_iload hx hb d_M_times_170 (lv_at hl 0 rfl) ?_
                              refine lv_bipush (v := 16) hx hb d_M_times_172 (by decide) ?_
                              refine lv_iload hx hb d_M_times_174 (lv_at hl 4 rfl) ?_
                              refine lv_isub hx hb d_M_times_176 ?_
                              rw [show ((16 - (nI (nn % 16))) : Int32) = nI (16 - (nn % 16)) from pk_sub (a := 16) (b := (nn % 16)) (by omega)]
                              refine lv_ishr hx hb d_M_times_177 ?_
                              rw [show (((nI g162) >>> ((nI (16 - (nn % 16))) &&& 31)) : Int32) = nI (g162 / 2 ^ (16 - nn % 16)) from nI_shr (n := g162) (r := 16 - nn % 16) (by omega) (by omega)]
                              refine lv_ior hx hb d_M_times_178 ?_
                              rw [show (((nI (0 * 2 ^ (nn % 16))) ||| (nI (g162 / 2 ^ (16 - nn % 16)))) : Int32) = nI (0 * 2 ^ (nn % 16) + g162 / 2 ^ (16 - nn % 16)) from nI_or_r (lo_lt (by omega) (by omega))]
                              refine lv_ldc (v := 65535) hx hb hown (hts (.constant "ValueTreesModel" 130 65535) (by decide +kernel)) d_M_times_179 ?_
                              refine lv_iand hx hb d_M_times_181 ?_
                              rw [show (((nI (0 * 2 ^ (nn % 16) + g162 / 2 ^ (16 - nn % 16))) &&& 65535) : Int32) = nI ((0 * 2 ^ (nn % 16) + g162 / 2 ^ (16 - nn % 16)) % 65536) from nI_and65535 (by have h9 := hi_lt (x := 0) (r := nn % 16) (by omega) (by omega); have h8 := lo_lt (x := g162) (r := nn % 16) (by omega) (by omega); have h7 : 2 ^ (nn % 16) ≤ 2 ^ 15 := Nat.pow_le_pow_right (by decide) (by omega); omega)]
                              have hnew : (0 * 2 ^ (nn % 16) + g162 / 2 ^ (16 - nn % 16)) % 65536 = P / 65536 ^ i % 65536 := by
                                exfalso; omega
                              refine m_ast_sh hx hb hK hM hS i rfl (by omega) ((0 * 2 ^ (nn % 16) + g162 / 2 ^ (16 - nn % 16)) % 65536) rfl d_M_times_182 (fun H locs hM hS => ?_)
                              have hM : mAt D dT mm wd lf rt tc ty F sz Wk wz dg dc (updN sh i ((0 * 2 ^ (nn % 16) + g162 / 2 ^ (16 - nn % 16)) % 65536)) H := hM
                              refine lv_iinc (v := (nI i - 1)) (lv' := [(8, .int (nI i - 1)), (10, .int (nI g162)), (9, .int 0), (6, .int (nI (nn / 16))), (7, .int (nI (nn % 16))), (5, .int (nI (nb z.natAbs))), (4, .int 0), (0, .ref (mm 0)), (1, .int (nI j)), (2, .int (nI j9)), (3, .int (nI nn))]) hx hb d_M_times_183 hl (k := 2) rfl (by rw [Int32.sub_eq_add_neg]; rfl) (by decide) rfl (fun ls hl => ?_)
                              refine lv_goto (tgt := 108) hx hb d_M_times_186 (by decide) ?_
                              exact ih108 i (by omega) (by omega) _ _ _ (fun q h1 h2 => by rcases Nat.eq_or_lt_of_le h1 with e | e <;> first | (subst e; rw [updN_s]; exact hnew) | (rw [updN_n (by omega)]; exact hsh q e h2)) hM hS ls (lv_sub hl [0, 3, 4, 5, 6, 7, 8, 9, 10] rfl)
                          · have nc158 : ¬ i < (nn / 16) := fun h9 => c158 ((nI_ltI (a := i) (b := (nn / 16)) (by omega) (by omega)).mpr h9)
                            refine lv_aload_n hx hb d_M_times_120 rfl (lv_at hl 5 rfl) ?_
                            refine lv_iload hx hb d_M_times_121 (lv_at hl 0 rfl) ?_
                            refine lv_iload hx hb d_M_times_123 (lv_at hl 1 rfl) ?_
                            refine lv_isub hx hb d_M_times_125 ?_
                            rw [show (((nI i) - (nI (nn / 16))) : Int32) = nI (i - (nn / 16)) from pk_sub (a := i) (b := (nn / 16)) (by omega)]
                            refine z_callR (va_runV (C := "ValueTreesModel") (As := [.int (nI (i - (nn / 16)))]) (rest := []) ⟨hx, hb, hml, hown, hts⟩ (c_M_digitAt l D dT _ mm wd lf rt tc ty F sz Wk wz dg dc sh hM (i - (nn / 16)) (by omega) hdc) ⟨callB_of 1 hts (gI gd_up gd_c q643) rfl rfl rfl (ht _ q10) (ht _ q640) hd_M_digitAt ⟨Nat.le_of_ble_eq_true rfl, Nat.le_of_ble_eq_true rfl⟩, ht _ q642, ht _ qs24⟩ (z_preV hK (va_recv hK.1 hM.1 (ci := 10) (q0 := 0) rfl rfl)) rfl rfl hl.1 rfl (lv_room (Nat.le_of_ble_eq_true rfl)) d_M_times_126 ⟨Nat.zero_le _, Nat.zero_le _⟩) (fun v164 hv163 => ?_)
                            obtain ⟨g165, hg165⟩ : ∃ y, y = (if i - (nn / 16) < dc then dg (i - (nn / 16)) else 0) := ⟨_, rfl⟩
                            have hv163 : v164 = .int (nI g165) := by rw [hg165]; exact hv163
                            subst hv163
                            have hg165l : g165 < 65536 := by rw [hg165]; exact dgat hd _
                            have hg165d : g165 = z.natAbs / 2 ^ (16 * (i - (nn / 16))) % 65536 := by rw [hg165, digit_of hd, hdv]
                            refine lv_goto (tgt := 133) hx hb d_M_times_129 (by decide) ?_
                            refine lv_istore (lv' := [(9, .int (nI g165)), (8, .int (nI i)), (6, .int (nI (nn / 16))), (7, .int (nI (nn % 16))), (5, .int (nI (nb z.natAbs))), (4, .int 0), (0, .ref (mm 0)), (1, .int (nI j)), (2, .int (nI j9)), (3, .int (nI nn))]) hx hb d_M_times_133 hl (by decide) rfl (fun ls hl => ?_)
                            refine lv_iload hx hb d_M_times_135 (lv_at hl 1 rfl) ?_
                            refine lv_iload hx hb d_M_times_137 (lv_at hl 2 rfl) ?_
                            refine lv_icmp_le (tgt := 156) hx hb d_M_times_139 (by decide) (fun c166 => ?_) (fun c166 => ?_)
                            · have nc166 : i ≤ (nn / 16) := (nI_leI (a := i) (b := (nn / 16)) (by omega) (by omega)).mp c166
                              refine lv_iconst (v := 0) hx hb d_M_times_156 (by decide) ?_
                              refine lv_istore (lv' := [(10, .int 0), (9, .int (nI g165)), (8, .int (nI i)), (6, .int (nI (nn / 16))), (7, .int (nI (nn % 16))), (5, .int (nI (nb z.natAbs))), (4, .int 0), (0, .ref (mm 0)), (1, .int (nI j)), (2, .int (nI j9)), (3, .int (nI nn))]) hx hb d_M_times_157 hl (by decide) rfl (fun ls hl => ?_)
                              refine lv_aload_n hx hb d_M_times_159 rfl (lv_at hl 7 rfl) ?_
                              refine va_get (D := D) (ci := 10) (v := .ref (mm 9)) (C := "ValueTreesModel") (T := T_M) (N := 12) hx hb ht in_M hown hK.1 hM.1 0 rfl rfl 11 (by decide) (ht _ q550) (fun _ h9 => h9) rfl d_M_times_160 ?_
                              refine lv_iload hx hb d_M_times_163 (lv_at hl 2 rfl) ?_
                              refine lv_iload hx hb d_M_times_165 (lv_at hl 1 rfl) ?_
                              refine lv_iload hx hb d_M_times_167 (lv_at hl 4 rfl) ?_
                              refine lv_ishl hx hb d_M_times_169 ?_
                              rw [show (((nI g165) <<< ((nI (nn % 16)) &&& 31)) : Int32) = nI (g165 * 2 ^ (nn % 16)) from nI_shlr (n := g165) (r := nn % 16) (by omega) (Nat.lt_trans (hi_lt (by omega) (by omega)) (by decide))]
                              refine lv_iload hx hb d_M_times_170 (lv_at hl 0 rfl) ?_
                              refine lv_bipush (v := 16) hx hb d_M_times_172 (by decide) ?_
                              refine lv_iload hx hb d_M_times_174 (lv_at hl 4 rfl) ?_
                              refine lv_isub hx hb d_M_times_176 ?_
                              rw [show ((16 - (nI (nn % 16))) : Int32) = nI (16 - (nn % 16)) from pk_sub (a := 16) (b := (nn % 16)) (by omega)]
                              refine lv_ishr hx hb d_M_times_177 ?_
                              rw [show ((0 >>> ((nI (16 - (nn % 16))) &&& 31)) : Int32) = nI (0 / 2 ^ (16 - nn % 16)) from nI_shr (n := 0) (r := 16 - nn % 16) (by omega) (by omega)]
                              refine lv_ior hx hb d_M_times_178 ?_
                              rw [show (((nI (g165 * 2 ^ (nn % 16))) ||| (nI (0 / 2 ^ (16 - nn % 16)))) : Int32) = nI (g165 * 2 ^ (nn % 16) + 0 / 2 ^ (16 - nn % 16)) from nI_or_r (lo_lt (by omega) (by omega))]
                              refine lv_ldc (v := 65535) hx hb hown (hts (.constant "ValueTreesModel" 130 65535) (by decide +kernel)) d_M_times_179 ?_
                              refine lv_iand hx hb d_M_times_181 ?_
                              rw [show (((nI (g165 * 2 ^ (nn % 16) + 0 / 2 ^ (16 - nn % 16))) &&& 65535) : Int32) = nI ((g165 * 2 ^ (nn % 16) + 0 / 2 ^ (16 - nn % 16)) % 65536) from nI_and65535 (by have h9 := hi_lt (x := g165) (r := nn % 16) (by omega) (by omega); have h8 := lo_lt (x := 0) (r := nn % 16) (by omega) (by omega); have h7 : 2 ^ (nn % 16) ≤ 2 ^ 15 := Nat.pow_le_pow_right (by decide) (by omega); omega)]
                              have hnew : (g165 * 2 ^ (nn % 16) + 0 / 2 ^ (16 - nn % 16)) % 65536 = P / 65536 ^ i % 65536 := by
                                rw [hP, shl_a (show nn / 16 = i by omega), hg165d, show i - nn / 16 = 0 by omega, Nat.zero_div, Nat.add_zero]
                              refine m_ast_sh hx hb hK hM hS i rfl (by omega) ((g165 * 2 ^ (nn % 16) + 0 / 2 ^ (16 - nn % 16)) % 65536) rfl d_M_times_182 (fun H locs hM hS => ?_)
                              have hM : mAt D dT mm wd lf rt tc ty F sz Wk wz dg dc (updN sh i ((g165 * 2 ^ (nn % 16) + 0 / 2 ^ (16 - nn % 16)) % 65536)) H := hM
                              refine lv_iinc (v := (nI i - 1)) (lv' := [(8, .int (nI i - 1)), (10, .int 0), (9, .int (nI g165)), (6, .int (nI (nn / 16))), (7, .int (nI (nn % 16))), (5, .int (nI (nb z.natAbs))), (4, .int 0), (0, .ref (mm 0)), (1, .int (nI j)), (2, .int (nI j9)), (3, .int (nI nn))]) hx hb d_M_times_183 hl (k := 2) rfl (by rw [Int32.sub_eq_add_neg]; rfl) (by decide) rfl (fun ls hl => ?_)
                              refine lv_goto (tgt := 108) hx hb d_M_times_186 (by decide) ?_
                              exact ih108 i (by omega) (by omega) _ _ _ (fun q h1 h2 => by rcases Nat.eq_or_lt_of_le h1 with e | e <;> first | (subst e; rw [updN_s]; exact hnew) | (rw [updN_n (by omega)]; exact hsh q e h2)) hM hS ls (lv_sub hl [0, 3, 4, 5, 6, 7, 8, 9, 10] rfl)
                            · have nc166 : ¬ i ≤ (nn / 16) := fun h9 => c166 ((nI_leI (a := i) (b := (nn / 16)) (by omega) (by omega)).mpr h9)
                              refine lv_aload_n hx hb d_M_times_142 rfl (lv_at hl 6 rfl) ?_
                              refine lv_iload hx hb d_M_times_143 (lv_at hl 1 rfl) ?_
                              refine lv_iload hx hb d_M_times_145 (lv_at hl 2 rfl) ?_
                              refine lv_isub hx hb d_M_times_147 ?_
                              rw [show (((nI i) - (nI (nn / 16))) : Int32) = nI (i - (nn / 16)) from pk_sub (a := i) (b := (nn / 16)) (by omega)]
                              refine lv_iconst (v := 1) hx hb d_M_times_148 (by decide) ?_
                              refine lv_isub hx hb d_M_times_149 ?_
                              rw [show (((nI (i - (nn / 16))) - 1) : Int32) = nI ((i - (nn / 16)) - 1) from pk_sub (a := (i - (nn / 16))) (b := 1) (by omega)]
                              refine z_callR (va_runV (C := "ValueTreesModel") (As := [.int (nI ((i - (nn / 16)) - 1))]) (rest := []) ⟨hx, hb, hml, hown, hts⟩ (c_M_digitAt l D dT _ mm wd lf rt tc ty F sz Wk wz dg dc sh hM ((i - (nn / 16)) - 1) (by omega) hdc) ⟨callB_of 1 hts (gI gd_up gd_c q643) rfl rfl rfl (ht _ q10) (ht _ q640) hd_M_digitAt ⟨Nat.le_of_ble_eq_true rfl, Nat.le_of_ble_eq_true rfl⟩, ht _ q642, ht _ qs24⟩ (z_preV hK (va_recv hK.1 hM.1 (ci := 10) (q0 := 0) rfl rfl)) rfl rfl hl.1 rfl (lv_room (Nat.le_of_ble_eq_true rfl)) d_M_times_150 ⟨Nat.zero_le _, Nat.zero_le _⟩) (fun v168 hv167 => ?_)
                              obtain ⟨g169, hg169⟩ : ∃ y, y = (if (i - (nn / 16)) - 1 < dc then dg ((i - (nn / 16)) - 1) else 0) := ⟨_, rfl⟩
                              have hv167 : v168 = .int (nI g169) := by rw [hg169]; exact hv167
                              subst hv167
                              have hg169l : g169 < 65536 := by rw [hg169]; exact dgat hd _
                              have hg169d : g169 = z.natAbs / 2 ^ (16 * ((i - (nn / 16)) - 1)) % 65536 := by rw [hg169, digit_of hd, hdv]
                              refine lv_goto (tgt := 157) hx hb d_M_times_153 (by decide) ?_
                              refine lv_istore (lv' := [(10, .int (nI g169)), (9, .int (nI g165)), (8, .int (nI i)), (6, .int (nI (nn / 16))), (7, .int (nI (nn % 16))), (5, .int (nI (nb z.natAbs))), (4, .int 0), (0, .ref (mm 0)), (1, .int (nI j)), (2, .int (nI j9)), (3, .int (nI nn))]) hx hb d_M_times_157 hl (by decide) rfl (fun ls hl => ?_)
                              refine lv_aload_n hx hb d_M_times_159 rfl (lv_at hl 7 rfl) ?_
                              refine va_get (D := D) (ci := 10) (v := .ref (mm 9)) (C := "ValueTreesModel") (T := T_M) (N := 12) hx hb ht in_M hown hK.1 hM.1 0 rfl rfl 11 (by decide) (ht _ q550) (fun _ h9 => h9) rfl d_M_times_160 ?_
                              refine lv_iload hx hb d_M_times_163 (lv_at hl 2 rfl) ?_
                              refine lv_iload hx hb d_M_times_165 (lv_at hl 1 rfl) ?_
                              refine lv_iload hx hb d_M_times_167 (lv_at hl 4 rfl) ?_
                              refine lv_ishl hx hb d_M_times_169 ?_
                              rw [show (((nI g165) <<< ((nI (nn % 16)) &&& 31)) : Int32) = nI (g165 * 2 ^ (nn % 16)) from nI_shlr (n := g165) (r := nn % 16) (by omega) (Nat.lt_trans (hi_lt (by omega) (by omega)) (by decide))]
                              refine lv_iload hx hb d_M_times_170 (lv_at hl 0 rfl) ?_
                              refine lv_bipush (v := 16) hx hb d_M_times_172 (by decide) ?_
                              refine lv_iload hx hb d_M_times_174 (lv_at hl 4 rfl) ?_
                              refine lv_isub hx hb d_M_times_176 ?_
                              rw [show ((16 - (nI (nn % 16))) : Int32) = nI (16 - (nn % 16)) from pk_sub (a := 16) (b := (nn % 16)) (by omega)]
                              refine lv_ishr hx hb d_M_times_177 ?_
                              rw [show (((nI g169) >>> ((nI (16 - (nn % 16))) &&& 31)) : Int32) = nI (g169 / 2 ^ (16 - nn % 16)) from nI_shr (n := g169) (r := 16 - nn % 16) (by omega) (by omega)]
                              refine lv_ior hx hb d_M_times_178 ?_
                              rw [show (((nI (g165 * 2 ^ (nn % 16))) ||| (nI (g169 / 2 ^ (16 - nn % 16)))) : Int32) = nI (g165 * 2 ^ (nn % 16) + g169 / 2 ^ (16 - nn % 16)) from nI_or_r (lo_lt (by omega) (by omega))]
                              refine lv_ldc (v := 65535) hx hb hown (hts (.constant "ValueTreesModel" 130 65535) (by decide +kernel)) d_M_times_179 ?_
                              refine lv_iand hx hb d_M_times_181 ?_
                              rw [show (((nI (g165 * 2 ^ (nn % 16) + g169 / 2 ^ (16 - nn % 16))) &&& 65535) : Int32) = nI ((g165 * 2 ^ (nn % 16) + g169 / 2 ^ (16 - nn % 16)) % 65536) from nI_and65535 (by have h9 := hi_lt (x := g165) (r := nn % 16) (by omega) (by omega); have h8 := lo_lt (x := g169) (r := nn % 16) (by omega) (by omega); have h7 : 2 ^ (nn % 16) ≤ 2 ^ 15 := Nat.pow_le_pow_right (by decide) (by omega); omega)]
                              have hnew : (g165 * 2 ^ (nn % 16) + g169 / 2 ^ (16 - nn % 16)) % 65536 = P / 65536 ^ i % 65536 := by
                                have e8 : i = nn / 16 + (i - nn / 16 - 1 + 1) := by omega
                                have h8 := shl_b (N := z.natAbs) (n := nn) (q := i - nn / 16 - 1)
                                rw [← e8] at h8
                                rw [hP, h8, hg165d, hg169d, show i - nn / 16 - 1 + 1 = i - nn / 16 by omega]
                              refine m_ast_sh hx hb hK hM hS i rfl (by omega) ((g165 * 2 ^ (nn % 16) + g169 / 2 ^ (16 - nn % 16)) % 65536) rfl d_M_times_182 (fun H locs hM hS => ?_)
                              have hM : mAt D dT mm wd lf rt tc ty F sz Wk wz dg dc (updN sh i ((g165 * 2 ^ (nn % 16) + g169 / 2 ^ (16 - nn % 16)) % 65536)) H := hM
                              refine lv_iinc (v := (nI i - 1)) (lv' := [(8, .int (nI i - 1)), (10, .int (nI g169)), (9, .int (nI g165)), (6, .int (nI (nn / 16))), (7, .int (nI (nn % 16))), (5, .int (nI (nb z.natAbs))), (4, .int 0), (0, .ref (mm 0)), (1, .int (nI j)), (2, .int (nI j9)), (3, .int (nI nn))]) hx hb d_M_times_183 hl (k := 2) rfl (by rw [Int32.sub_eq_add_neg]; rfl) (by decide) rfl (fun ls hl => ?_)
                              refine lv_goto (tgt := 108) hx hb d_M_times_186 (by decide) ?_
                              exact ih108 i (by omega) (by omega) _ _ _ (fun q h1 h2 => by rcases Nat.eq_or_lt_of_le h1 with e | e <;> first | (subst e; rw [updN_s]; exact hnew) | (rw [updN_n (by omega)]; exact hsh q e h2)) hM hS ls (lv_sub hl [0, 3, 4, 5, 6, 7, 8, 9, 10] rfl)
                    exact loop140 (dc + nn / 16 + 2) (dc + nn / 16 + 1) (Nat.le_refl _) (by omega) _ _ sh (fun q h1 h2 => absurd h1 (by omega)) hM hS ls (lv_sub hl [0, 2, 1, 3, 4, 5, 6, 7, 8] rfl)
                  · have nc138 : ¬ ((nb z.natAbs) + nn) ≤ 1024 := fun h9 => c138 ((nI_leI (a := ((nb z.natAbs) + nn)) (b := 1024) (by omega) (by omega)).mpr h9)
                    refine lv_iconst (v := (-1)) hx hb d_M_times_76 (by decide) ?_
                    refine z_iretQ hx hb hr hlocks d_M_times_77 hS (Nat.le_refl _) (Nat.le_refl _) ?_
                    have eo : o_times RV (nI j9) (nI nn) = none := by rw [ti_ev hj9 hV8 ev hn9]; exact if_neg (fun h9 => by rcases h9 with h9 | h9 <;> first | omega | (split at h9 <;> omega))
                    rw [eo]
                    exact ⟨rfl, _, _, _, _, _, _, _, _, _, _, _, hM, hO, hT, hR, hWk⟩
                · have nc137 : (tW (tb (vty v8))) = 4 := (nI_eq (a := (tW (tb (vty v8)))) (b := 4) (by omega) (by omega)).mp c137
                  refine lv_bipush (v := 63) hx hb d_M_times_65 (by decide) ?_
                  refine lv_goto (tgt := 73) hx hb d_M_times_67 (by decide) ?_
                  refine lv_icmp_le (tgt := 78) hx hb d_M_times_73 (by decide) (fun c170 => ?_) (fun c170 => ?_)
                  · have nc170 : ((nb z.natAbs) + nn) ≤ 63 := (nI_leI (a := ((nb z.natAbs) + nn)) (b := 63) (by omega) (by omega)).mp c170
                    have hlim0 : nb z.natAbs + nn ≤ (if vty v8 = 4 then 63 else 1024) := by split <;> omega
                    have hlim : nb z.natAbs = 0 ∨ nb z.natAbs + nn ≤ (if vty v8 = 4 then 63 else 1024) := Or.inr hlim0
                    have hPl : z.natAbs * 2 ^ nn < 2 ^ 1024 := mul_lt2 (by have h9 := hlim0; split at h9 <;> omega)
                    have hw63 : tW (tb (vty v8)) = 4 → z.natAbs * 2 ^ nn < 2 ^ 63 := fun h9 => mul_lt2 (by rw [if_pos (by omega)] at hlim0; exact hlim0)
                    obtain ⟨P, hP⟩ : ∃ y, y = z.natAbs * 2 ^ nn := ⟨_, rfl⟩
                    refine lv_iload_n hx hb d_M_times_78 rfl (lv_at hl 5 rfl) ?_
                    refine lv_bipush (v := 16) hx hb d_M_times_79 (by decide) ?_
                    refine lv_idiv hx hb d_M_times_81 (by decide) ?_
                    rw [show (((nI nn) / 16) : Int32) = nI (nn / 16) from pk_div (a := nn) (d := 16) (by omega) (by decide) (by decide)]
                    refine lv_istore (lv' := [(6, .int (nI (nn / 16))), (5, .int (nI (nb z.natAbs))), (4, .int 0), (0, .ref (mm 0)), (1, .int (nI j)), (2, .int (nI j9)), (3, .int (nI nn))]) hx hb d_M_times_82 hl (by decide) rfl (fun ls hl => ?_)
                    refine lv_iload_n hx hb d_M_times_84 rfl (lv_at hl 6 rfl) ?_
                    refine lv_bipush (v := 16) hx hb d_M_times_85 (by decide) ?_
                    refine lv_irem hx hb d_M_times_87 (by decide) ?_
                    rw [show (((nI nn) - (nI nn) / 16 * 16) : Int32) = nI (nn % 16) from pk_rem (a := nn) (d := 16) (by omega) (by decide) (by decide)]
                    refine lv_istore (lv' := [(7, .int (nI (nn % 16))), (6, .int (nI (nn / 16))), (5, .int (nI (nb z.natAbs))), (4, .int 0), (0, .ref (mm 0)), (1, .int (nI j)), (2, .int (nI j9)), (3, .int (nI nn))]) hx hb d_M_times_88 hl (by decide) rfl (fun ls hl => ?_)
                    refine lv_iload hx hb d_M_times_90 (lv_at hl 2 rfl) ?_
                    refine lv_if_ne (tgt := 99) hx hb d_M_times_92 (by decide) (fun c171 => ?_) (fun c171 => absurd ((nI_eq (a := (nb z.natAbs)) (b := 0) (by omega) (by omega)).mp c171) (by omega))
                    refine lv_aload_n hx hb d_M_times_99 rfl (lv_at hl 4 rfl) ?_
                    refine va_get (D := D) (ci := 10) (v := .int (nI dc)) (C := "ValueTreesModel") (T := T_M) (N := 12) hx hb ht in_M hown hK.1 hM.1 0 rfl rfl 10 (by decide) (ht _ q549) (fun _ h9 => h9) rfl d_M_times_100 ?_
                    refine lv_iload hx hb d_M_times_103 (lv_at hl 1 rfl) ?_
                    refine lv_iadd hx hb d_M_times_105 ?_
                    rw [show (((nI dc) + (nI (nn / 16))) : Int32) = nI (dc + (nn / 16)) from nI_add dc (nn / 16)]
                    refine lv_istore (lv' := [(8, .int (nI (dc + (nn / 16)))), (7, .int (nI (nn % 16))), (6, .int (nI (nn / 16))), (5, .int (nI (nb z.natAbs))), (4, .int 0), (0, .ref (mm 0)), (1, .int (nI j)), (2, .int (nI j9)), (3, .int (nI nn))]) hx hb d_M_times_106 hl (by decide) rfl (fun ls hl => ?_)
                    rw [show nI (dc + nn / 16) = nI (dc + nn / 16 + 1) - 1 from (nI_pred _).symm] at hl
                    have loop172 : ∀ (n1089 : Nat) (i : Nat), (i ≤ dc + nn / 16 + 1) → i < n1089 → ∀ (H : Heap) (locs : List Loc) (sh : Nat → Nat), (∀ q, i ≤ q → q < dc + nn / 16 + 1 → sh q = P / 65536 ^ q % 65536) → mAt D dT mm wd lf rt tc ty F sz Wk wz dg dc sh H → va_S (mA mm) s.heap H locs → ∀ (ls : Array Slot), lv_has ls 11 [(8, .int (nI i - 1)), (6, .int (nI (nn / 16))), (7, .int (nI (nn % 16))), (5, .int (nI (nb z.natAbs))), (4, .int 0), (0, .ref (mm 0)), (1, .int (nI j)), (2, .int (nI j9)), (3, .int (nI nn))] → W p l e (headSpec w_M_times ({ frames := 4, cells := 0, slots := 0, locals := 90 })).room s m [.ref (mm 0), .int (nI j), .int (nI j9), .int (nI nn)].toArray below meth c H locs 0 0 (MQ below (z_Q (mA mm) (fun v H1 => v = some (.int (kp RV (nI j) (o_times RV (nI j9) (nI nn))).1) ∧ mI D dT mm tb tc (kp RV (nI j) (o_times RV (nI j9) (nI nn))).2 H1)) [.ref (mm 0), .int (nI j), .int (nI j9), .int (nI nn)].toArray s 0 0 (mA mm)) (F0 m 108 ls []) := by
                      intro n1089
                      induction n1089 with
                      | zero =>
                        intro i hi h1089
                        exact absurd h1089 (Nat.not_lt_zero _)
                      | succ n1089 ih108 =>
                        intro i hi h1089 H locs sh hsh hM hS ls hl
                        cases i with
                        | zero =>
                          rw [show nI 0 - 1 = (-1 : Int32) by decide] at hl
                          refine lv_iload hx hb d_M_times_108 (lv_at hl 0 rfl) ?_
                          refine lv_if_lt (tgt := 189) hx hb d_M_times_110 (by decide) (fun _ => ?_) (fun c173 => absurd c173 (by decide))
                          refine lv_aload_n hx hb d_M_times_189 rfl (lv_at hl 5 rfl) ?_
                          refine lv_iload hx hb d_M_times_190 (lv_at hl 3 rfl) ?_
                          refine lv_if_ne (tgt := 199) hx hb d_M_times_192 (by decide) (fun c174 => ?_) (fun c174 => absurd ((nI_eq (a := (nb z.natAbs)) (b := 0) (by omega) (by omega)).mp c174) (by omega))
                          refine lv_aload_n hx hb d_M_times_199 rfl (lv_at hl 5 rfl) ?_
                          refine va_get (D := D) (ci := 10) (v := .int (nI dc)) (C := "ValueTreesModel") (T := T_M) (N := 12) hx hb ht in_M hown hK.1 hM.1 0 rfl rfl 10 (by decide) (ht _ q549) (fun _ h9 => h9) rfl d_M_times_200 ?_
                          refine lv_iload hx hb d_M_times_203 (lv_at hl 1 rfl) ?_
                          refine lv_iadd hx hb d_M_times_205 ?_
                          rw [show (((nI dc) + (nI (nn / 16))) : Int32) = nI (dc + (nn / 16)) from nI_add dc (nn / 16)]
                          refine lv_iconst (v := 1) hx hb d_M_times_206 (by decide) ?_
                          refine lv_iadd hx hb d_M_times_207 ?_
                          rw [show (((nI (dc + (nn / 16))) + 1) : Int32) = nI ((dc + (nn / 16)) + 1) from nI_add (dc + (nn / 16)) 1]
                          refine m_put_dc hx hb ht hown hK hM hS (ht _ q549) ((dc + (nn / 16)) + 1) rfl d_M_times_208 (fun H locs hM hS => ?_)
                          have hM : mAt D dT mm wd lf rt tc ty F sz Wk wz dg ((dc + (nn / 16)) + 1) sh H := hM
                          refine lv_iconst (v := 0) hx hb d_M_times_211 (by decide) ?_
                          refine lv_istore (lv' := [(8, .int 0), (6, .int (nI (nn / 16))), (7, .int (nI (nn % 16))), (5, .int (nI (nb z.natAbs))), (4, .int 0), (0, .ref (mm 0)), (1, .int (nI j)), (2, .int (nI j9)), (3, .int (nI nn))]) hx hb d_M_times_212 hl (by decide) rfl (fun ls hl => ?_)
                          have hsh9 : ∀ q, q < (dc + (nn / 16)) + 1 → sh q = P / 65536 ^ q % 65536 := (fun q h2 => hsh q (Nat.zero_le q) h2)
                          have loop175 : ∀ (n2149 : Nat) (k : Nat), (k ≤ (dc + (nn / 16)) + 1) → (dc + (nn / 16)) + 1 - k < n2149 → ∀ (H : Heap) (locs : List Loc) (eg : Nat → Nat), (∀ q, q < k → eg q = P / 65536 ^ q % 65536) → mAt D dT mm wd lf rt tc ty F sz Wk wz eg ((dc + (nn / 16)) + 1) sh H → va_S (mA mm) s.heap H locs → ∀ (ls : Array Slot), lv_has ls 11 [(8, .int (nI k)), (4, .int 0), (0, .ref (mm 0)), (1, .int (nI j)), (2, .int (nI j9))] → W p l e (headSpec w_M_times ({ frames := 4, cells := 0, slots := 0, locals := 90 })).room s m [.ref (mm 0), .int (nI j), .int (nI j9), .int (nI nn)].toArray below meth c H locs 0 0 (MQ below (z_Q (mA mm) (fun v H1 => v = some (.int (kp RV (nI j) (o_times RV (nI j9) (nI nn))).1) ∧ mI D dT mm tb tc (kp RV (nI j) (o_times RV (nI j9) (nI nn))).2 H1)) [.ref (mm 0), .int (nI j), .int (nI j9), .int (nI nn)].toArray s 0 0 (mA mm)) (F0 m 214 ls []) := by
                            intro n2149
                            induction n2149 with
                            | zero =>
                              intro k hk h2149
                              exact absurd h2149 (Nat.not_lt_zero _)
                            | succ n2149 ih214 =>
                              intro k hk h2149 H locs eg heg hM hS ls hl
                              refine lv_iload hx hb d_M_times_214 (lv_at hl 0 rfl) ?_
                              refine lv_aload_n hx hb d_M_times_216 rfl (lv_at hl 2 rfl) ?_
                              refine va_get (D := D) (ci := 10) (v := .int (nI ((dc + (nn / 16)) + 1))) (C := "ValueTreesModel") (T := T_M) (N := 12) hx hb ht in_M hown hK.1 hM.1 0 rfl rfl 10 (by decide) (ht _ q549) (fun _ h9 => h9) rfl d_M_times_217 ?_
                              refine lv_icmp_ge (tgt := 243) hx hb d_M_times_220 (by decide) (fun c176 => ?_) (fun c176 => ?_)
                              · have nc176 : ((dc + (nn / 16)) + 1) ≤ k := (nI_leI (a := ((dc + (nn / 16)) + 1)) (b := k) (by omega) (by omega)).mp c176
                                have e9 : k = (dc + (nn / 16)) + 1 := by omega
                                have hPK : P < 65536 ^ ((dc + (nn / 16)) + 1) := by rw [hP, p65]; have h9 := dval_lt hdx; rw [hvx] at h9; exact Nat.lt_of_lt_of_le (Nat.mul_lt_mul_of_pos_right h9 (Nat.two_pow_pos nn)) (by rw [← Nat.pow_add]; exact Nat.pow_le_pow_right (by decide) (by omega))
                                have hd : ∀ q, q < (dc + (nn / 16)) + 1 → eg q < 65536 := fun q hq => by rw [heg q (by omega)]; exact Nat.mod_lt _ (by decide)
                                have hdc : (dc + (nn / 16)) + 1 ≤ 140 := by omega
                                have hdP : dval eg ((dc + (nn / 16)) + 1) = P := by rw [dig_dval (fun q hq => heg q (by omega)), Nat.mod_eq_of_lt hPK]
                                refine lv_aload_n hx hb d_M_times_243 rfl (lv_at hl 2 rfl) ?_
                                refine z_callQ (va_runV (C := "ValueTreesModel") (As := []) (rest := []) ⟨hx, hb, hml, hown, hts⟩ (c_M_trim l D dT _ mm wd lf rt tc ty F sz Wk wz eg ((dc + (nn / 16)) + 1) sh hM hdc hd) ⟨callB_of 0 hts (gI gd_up gd_c q678) rfl rfl rfl (ht _ q10) (ht _ q675) hd_M_trim ⟨Nat.le_of_ble_eq_true rfl, Nat.le_of_ble_eq_true rfl⟩, ht _ q677, ht _ qs31⟩ (z_preV hK (va_recv hK.1 hM.1 (ci := 10) (q0 := 0) rfl rfl)) rfl rfl hl.1 rfl (lv_room (Nat.le_of_ble_eq_true rfl)) d_M_times_244 ⟨Nat.le_refl _, Nat.le_refl _⟩) hS (fun _ h9 => h9) (fun v178 H locs hv177 hz179 hf180 hS => ?_)
                                obtain ⟨rfl, ec, hec, hval8, htr, hM⟩ := hv177
                                refine W.eq (g2 := F0 m 247 ls []) rfl ?_
                                obtain ⟨hts1, hts2⟩ := times_sgn (z := z) (n := nn)
                                have hdv2 : dval eg ec = (z * 2 ^ nn).natAbs := by rw [hval8, hdP, hts2, hP]
                                have hzz : (z * 2 ^ nn).natAbs < 2 ^ 1024 := by rw [hts2]; exact hPl
                                have hz0 : ¬ z * 2 ^ nn < 0 := fun h9 => hzx (hts1.mp h9)
                                refine lv_aload_n hx hb d_M_times_247 rfl (lv_at hl 2 rfl) ?_
                                refine lv_iconst (v := 0) hx hb d_M_times_248 (by decide) ?_
                                refine m_put_wz hx hb ht hown hK hM hS (ht _ q547) 0 rfl d_M_times_249 (fun H locs hM hS => ?_)
                                have hM : mAt D dT mm wd lf rt tc ty F sz Wk 0 eg ec sh H := hM
                                have hW : wAt Wk ([] : List Nat) := wAt_nil hWk
                                have hM : mAt D dT mm wd lf rt tc ty F sz Wk (([] : List Nat).length) eg ec sh H := hM
                                refine lv_aload_n hx hb d_M_times_252 rfl (lv_at hl 2 rfl) ?_
                                refine lv_iload hx hb d_M_times_253 (lv_at hl 1 rfl) ?_
                                refine W.eq (g2 := F0 m 255 ls [.int (if z * 2 ^ nn < 0 then 1 else 0), .ref (mm 0)]) (by rw [if_neg hz0]) ?_
                                refine z_callQ (va_runV (C := "ValueTreesModel") (As := [.int (if z * 2 ^ nn < 0 then 1 else 0)]) (rest := []) ⟨hx, hb, hml, hown, hts⟩ (c_M_putNumber l D dT _ mm wd lf rt tc ty F sz Wk ([] : List Nat) eg ec sh hM hW (fun q hq => hd q (by omega)) (by omega) (z * 2 ^ nn) hzz hdv2 htr (by decide)) ⟨callB_of 1 hts (gI gd_up gd_c q627) rfl rfl rfl (ht _ q10) (ht _ q624) hd_M_putNumber ⟨Nat.le_of_ble_eq_true rfl, Nat.le_of_ble_eq_true rfl⟩, ht _ q626, ht _ qs20⟩ (z_preV hK (va_recv hK.1 hM.1 (ci := 10) (q0 := 0) rfl rfl)) rfl rfl hl.1 rfl (lv_room (Nat.le_of_ble_eq_true rfl)) d_M_times_255 ⟨Nat.le_refl _, Nat.le_refl _⟩) hS (fun _ h9 => h9) (fun v182 H locs hv181 hz183 hf184 hS => ?_)
                                obtain ⟨rfl, Wk, hW, hM⟩ := hv181
                                refine W.eq (g2 := F0 m 258 ls []) rfl ?_
                                refine lv_aload_n hx hb d_M_times_258 rfl (lv_at hl 2 rfl) ?_
                                refine lv_iload_n hx hb d_M_times_259 rfl (lv_at hl 3 rfl) ?_
                                refine lv_aload_n hx hb d_M_times_260 rfl (lv_at hl 2 rfl) ?_
                                refine va_get (D := D) (ci := 10) (v := .ref (mm 4)) (C := "ValueTreesModel") (T := T_M) (N := 12) hx hb ht in_M hown hK.1 hM.1 0 rfl rfl 4 (by decide) (ht _ q543) (fun _ h9 => h9) rfl d_M_times_261 ?_
                                refine lv_iload_n hx hb d_M_times_264 rfl (lv_at hl 4 rfl) ?_
                                refine z_iald hx hb hK (hM.1 4 _ rfl) j9 rfl (by omega) (by decide) d_M_times_265 ?_
                                rw [et8]
                                have hnn0 : (tW (tb (vty v8)) = 3 ∨ tW (tb (vty v8)) = 4) → 0 ≤ z * 2 ^ nn := fun h9 => by
                                  have h8 := hw8
                                  rw [ev] at h8
                                  have h7 := h8.2.2.2.2.2.1 (by simpa [vty] using h9)
                                  exact Int.not_lt.mp (fun h6 => absurd (hts1.mp h6) (by omega))
                                have ebs : ([] : List Nat) ++ (0 :: nser (z * 2 ^ nn)) = cs (.pow (.num (z * 2 ^ nn)) (vty v8)) := rfl
                                rw [ebs] at hW hM
                                refine z_callQ (va_runV (C := "ValueTreesModel") (As := [.int (nI j), .int (nI (vty v8))]) (rest := []) ⟨hx, hb, hml, hown, hts⟩ (c_M_keep l D dT _ mm wd lf rt tc ty F sz Wk (cs (.pow (.num (z * 2 ^ nn)) (vty v8))) eg ec sh hM hW j (vty v8) hj (by rw [← ebs]; have h9 := nser_len (z * 2 ^ nn); have h8 := nb_lt.mpr hzz; simp only [List.length_append, List.length_cons, List.length_nil, size4_len]; omega)) ⟨callB_of 2 hts (gI gd_up gd_c q647) rfl rfl rfl (ht _ q10) (ht _ q644) hd_M_keep ⟨Nat.le_of_ble_eq_true rfl, Nat.le_of_ble_eq_true rfl⟩, ht _ q646, ht _ qs25⟩ (z_preV hK (va_recv hK.1 hM.1 (ci := 10) (q0 := 0) rfl rfl)) rfl rfl hl.1 rfl (lv_room (Nat.le_of_ble_eq_true rfl)) d_M_times_266 ⟨Nat.le_refl _, Nat.le_refl _⟩) hS (fun _ h9 => h9) (fun v186 H locs hv185 hz187 hf188 hS => ?_)
                                rcases hv185 with ⟨hk1, rfl, hM⟩ | ⟨hk1, rfl, hM⟩
                                · refine W.eq (g2 := F0 m 269 ls [.int (-2)]) rfl ?_
                                  refine z_iretQ hx hb hr hlocks d_M_times_269 hS (Nat.le_refl _) (Nat.le_refl _) ?_
                                  have eo := show o_times RV (nI j9) (nI nn) = some (.pow (.num (z * 2 ^ nn)) (vty v8)) from (by rw [ti_ev hj9 hV8 ev hn9]; exact if_pos hlim)
                                  rw [eo]
                                  exact kO_done ⟨_, _, _, _, _, hW.1, Or.inl ⟨hk1, rfl, hM⟩⟩ hO hT hR hj ht8 ⟨rfl, rfl, rfl, hword, hzz, hnn0, fun h9 => by rw [hts2]; exact hw63 h9⟩
                                · refine W.eq (g2 := F0 m 269 ls [.int (nI (cs (.pow (.num (z * 2 ^ nn)) (vty v8))).length)]) rfl ?_
                                  refine z_iretQ hx hb hr hlocks d_M_times_269 hS (Nat.le_refl _) (Nat.le_refl _) ?_
                                  have eo := show o_times RV (nI j9) (nI nn) = some (.pow (.num (z * 2 ^ nn)) (vty v8)) from (by rw [ti_ev hj9 hV8 ev hn9]; exact if_pos hlim)
                                  rw [eo]
                                  exact kO_done ⟨_, _, _, _, _, hW.1, Or.inr ⟨hk1, rfl, hM⟩⟩ hO hT hR hj ht8 ⟨rfl, rfl, rfl, hword, hzz, hnn0, fun h9 => by rw [hts2]; exact hw63 h9⟩
                              · have nc176 : ¬ ((dc + (nn / 16)) + 1) ≤ k := fun h9 => c176 ((nI_leI (a := ((dc + (nn / 16)) + 1)) (b := k) (by omega) (by omega)).mpr h9)
                                refine lv_aload_n hx hb d_M_times_223 rfl (lv_at hl 2 rfl) ?_
                                refine va_get (D := D) (ci := 10) (v := .ref (mm 8)) (C := "ValueTreesModel") (T := T_M) (N := 12) hx hb ht in_M hown hK.1 hM.1 0 rfl rfl 9 (by decide) (ht _ q548) (fun _ h9 => h9) rfl d_M_times_224 ?_
                                refine lv_iload hx hb d_M_times_227 (lv_at hl 0 rfl) ?_
                                refine lv_aload_n hx hb d_M_times_229 rfl (lv_at hl 2 rfl) ?_
                                refine va_get (D := D) (ci := 10) (v := .ref (mm 9)) (C := "ValueTreesModel") (T := T_M) (N := 12) hx hb ht in_M hown hK.1 hM.1 0 rfl rfl 11 (by decide) (ht _ q550) (fun _ h9 => h9) rfl d_M_times_230 ?_
                                refine lv_iload hx hb d_M_times_233 (lv_at hl 0 rfl) ?_
                                refine z_iald hx hb hK (hM.1 9 _ rfl) k rfl (by omega) (by decide) d_M_times_235 ?_
                                refine m_ast_dg hx hb hK hM hS k rfl (by omega) (sh k) rfl d_M_times_236 (fun H locs hM hS => ?_)
                                have hM : mAt D dT mm wd lf rt tc ty F sz Wk wz (updN eg k (sh k)) ((dc + (nn / 16)) + 1) sh H := hM
                                refine lv_iinc (v := (nI (k + 1))) (lv' := [(8, .int (nI (k + 1))), (4, .int 0), (0, .ref (mm 0)), (1, .int (nI j)), (2, .int (nI j9))]) hx hb d_M_times_237 hl (k := 0) rfl (nI_1 k) (by decide) rfl (fun ls hl => ?_)
                                refine lv_goto (tgt := 214) hx hb d_M_times_240 (by decide) ?_
                                exact ih214 (k + 1) (by omega) (by omega) _ _ _ (lt_s (fun q hq => by rw [updN_n (by omega)]; exact heg q hq) (by rw [updN_s]; exact hsh9 k (by omega))) hM hS ls (lv_sub hl [0, 1, 2, 3, 4] rfl)
                          exact loop175 ((dc + (nn / 16)) + 1 + 1) 0 (by omega) (by omega) _ _ dg (fun q hq => absurd hq (Nat.not_lt_zero q)) hM hS ls (lv_sub hl [0, 4, 5, 6, 7] rfl)
                        | succ i =>
                          rw [nI_pred] at hl
                          refine lv_iload hx hb d_M_times_108 (lv_at hl 0 rfl) ?_
                          refine lv_if_lt (tgt := 189) hx hb d_M_times_110 (by decide) (fun c189 => absurd c189 (nI_pos (by omega))) (fun c189 => ?_)
                          refine lv_iload hx hb d_M_times_113 (lv_at hl 0 rfl) ?_
                          refine lv_iload hx hb d_M_times_115 (lv_at hl 1 rfl) ?_
                          refine lv_icmp_lt (tgt := 132) hx hb d_M_times_117 (by decide) (fun c190 => ?_) (fun c190 => ?_)
                          · have nc190 : i < (nn / 16) := (nI_ltI (a := i) (b := (nn / 16)) (by omega) (by omega)).mp c190
                            refine lv_iconst (v := 0) hx hb d_M_times_132 (by decide) ?_
                            refine lv_istore (lv' := [(9, .int 0), (8, .int (nI i)), (6, .int (nI (nn / 16))), (7, .int (nI (nn % 16))), (5, .int (nI (nb z.natAbs))), (4, .int 0), (0, .ref (mm 0)), (1, .int (nI j)), (2, .int (nI j9)), (3, .int (nI nn))]) hx hb d_M_times_133 hl (by decide) rfl (fun ls hl => ?_)
                            refine lv_iload hx hb d_M_times_135 (lv_at hl 1 rfl) ?_
                            refine lv_iload hx hb d_M_times_137 (lv_at hl 2 rfl) ?_
                            refine lv_icmp_le (tgt := 156) hx hb d_M_times_139 (by decide) (fun c191 => ?_) (fun c191 => ?_)
                            · have nc191 : i ≤ (nn / 16) := (nI_leI (a := i) (b := (nn / 16)) (by omega) (by omega)).mp c191
                              refine lv_iconst (v := 0) hx hb d_M_times_156 (by decide) ?_
                              refine lv_istore (lv' := [(10, .int 0), (9, .int 0), (8, .int (nI i)), (6, .int (nI (nn / 16))), (7, .int (nI (nn % 16))), (5, .int (nI (nb z.natAbs))), (4, .int 0), (0, .ref (mm 0)), (1, .int (nI j)), (2, .int (nI j9)), (3, .int (nI nn))]) hx hb d_M_times_157 hl (by decide) rfl (fun ls hl => ?_)
                              refine lv_aload_n hx hb d_M_times_159 rfl (lv_at hl 7 rfl) ?_
                              refine va_get (D := D) (ci := 10) (v := .ref (mm 9)) (C := "ValueTreesModel") (T := T_M) (N := 12) hx hb ht in_M hown hK.1 hM.1 0 rfl rfl 11 (by decide) (ht _ q550) (fun _ h9 => h9) rfl d_M_times_160 ?_
                              refine lv_iload hx hb d_M_times_163 (lv_at hl 2 rfl) ?_
                              refine lv_iload hx hb d_M_times_165 (lv_at hl 1 rfl) ?_
                              refine lv_iload hx hb d_M_times_167 (lv_at hl 4 rfl) ?_
                              refine lv_ishl hx hb d_M_times_169 ?_
                              rw [show ((0 <<< ((nI (nn % 16)) &&& 31)) : Int32) = nI (0 * 2 ^ (nn % 16)) from nI_shlr (n := 0) (r := nn % 16) (by omega) (Nat.lt_trans (hi_lt (by omega) (by omega)) (by decide))]
                              refine lv_iload hx hb d_M_times_170 (lv_at hl 0 rfl) ?_
                              refine lv_bipush (v := 16) hx hb d_M_times_172 (by decide) ?_
                              refine lv_iload hx hb d_M_times_174 (lv_at hl 4 rfl) ?_
                              refine lv_isub hx hb d_M_times_176 ?_
                              rw [show ((16 - (nI (nn % 16))) : Int32) = nI (16 - (nn % 16)) from pk_sub (a := 16) (b := (nn % 16)) (by omega)]
                              refine lv_ishr hx hb d_M_times_177 ?_
                              rw [show ((0 >>> ((nI (16 - (nn % 16))) &&& 31)) : Int32) = nI (0 / 2 ^ (16 - nn % 16)) from nI_shr (n := 0) (r := 16 - nn % 16) (by omega) (by omega)]
                              refine lv_ior hx hb d_M_times_178 ?_
                              rw [show (((nI (0 * 2 ^ (nn % 16))) ||| (nI (0 / 2 ^ (16 - nn % 16)))) : Int32) = nI (0 * 2 ^ (nn % 16) + 0 / 2 ^ (16 - nn % 16)) from nI_or_r (lo_lt (by omega) (by omega))]
                              refine lv_ldc (v := 65535) hx hb hown (hts (.constant "ValueTreesModel" 130 65535) (by decide +kernel)) d_M_times_179 ?_
                              refine lv_iand hx hb d_M_times_181 ?_
                              rw [show (((nI (0 * 2 ^ (nn % 16) + 0 / 2 ^ (16 - nn % 16))) &&& 65535) : Int32) = nI ((0 * 2 ^ (nn % 16) + 0 / 2 ^ (16 - nn % 16)) % 65536) from nI_and65535 (by have h9 := hi_lt (x := 0) (r := nn % 16) (by omega) (by omega); have h8 := lo_lt (x := 0) (r := nn % 16) (by omega) (by omega); have h7 : 2 ^ (nn % 16) ≤ 2 ^ 15 := Nat.pow_le_pow_right (by decide) (by omega); omega)]
                              have hnew : (0 * 2 ^ (nn % 16) + 0 / 2 ^ (16 - nn % 16)) % 65536 = P / 65536 ^ i % 65536 := by
                                rw [hP, shl_0 (by omega), Nat.zero_mul, Nat.zero_div]
                              refine m_ast_sh hx hb hK hM hS i rfl (by omega) ((0 * 2 ^ (nn % 16) + 0 / 2 ^ (16 - nn % 16)) % 65536) rfl d_M_times_182 (fun H locs hM hS => ?_)
                              have hM : mAt D dT mm wd lf rt tc ty F sz Wk wz dg dc (updN sh i ((0 * 2 ^ (nn % 16) + 0 / 2 ^ (16 - nn % 16)) % 65536)) H := hM
                              refine lv_iinc (v := (nI i - 1)) (lv' := [(8, .int (nI i - 1)), (10, .int 0), (9, .int 0), (6, .int (nI (nn / 16))), (7, .int (nI (nn % 16))), (5, .int (nI (nb z.natAbs))), (4, .int 0), (0, .ref (mm 0)), (1, .int (nI j)), (2, .int (nI j9)), (3, .int (nI nn))]) hx hb d_M_times_183 hl (k := 2) rfl (by rw [Int32.sub_eq_add_neg]; rfl) (by decide) rfl (fun ls hl => ?_)
                              refine lv_goto (tgt := 108) hx hb d_M_times_186 (by decide) ?_
                              exact ih108 i (by omega) (by omega) _ _ _ (fun q h1 h2 => by rcases Nat.eq_or_lt_of_le h1 with e | e <;> first | (subst e; rw [updN_s]; exact hnew) | (rw [updN_n (by omega)]; exact hsh q e h2)) hM hS ls (lv_sub hl [0, 3, 4, 5, 6, 7, 8, 9, 10] rfl)
                            · have nc191 : ¬ i ≤ (nn / 16) := fun h9 => c191 ((nI_leI (a := i) (b := (nn / 16)) (by omega) (by omega)).mpr h9)
                              refine lv_aload_n hx hb d_M_times_142 rfl (lv_at hl 6 rfl) ?_
                              refine lv_iload hx hb d_M_times_143 (lv_at hl 1 rfl) ?_
                              refine lv_iload hx hb d_M_times_145 (lv_at hl 2 rfl) ?_
                              refine lv_isub hx hb d_M_times_147 ?_
                              rw [show (((nI i) - (nI (nn / 16))) : Int32) = nI (i - (nn / 16)) from pk_sub (a := i) (b := (nn / 16)) (by omega)]
                              refine lv_iconst (v := 1) hx hb d_M_times_148 (by decide) ?_
                              refine lv_isub hx hb d_M_times_149 ?_
                              rw [show (((nI (i - (nn / 16))) - 1) : Int32) = nI ((i - (nn / 16)) - 1) from pk_sub (a := (i - (nn / 16))) (b := 1) (by omega)]
                              refine z_callR (va_runV (C := "ValueTreesModel") (As := [.int (nI ((i - (nn / 16)) - 1))]) (rest := []) ⟨hx, hb, hml, hown, hts⟩ (c_M_digitAt l D dT _ mm wd lf rt tc ty F sz Wk wz dg dc sh hM ((i - (nn / 16)) - 1) (by omega) hdc) ⟨callB_of 1 hts (gI gd_up gd_c q643) rfl rfl rfl (ht _ q10) (ht _ q640) hd_M_digitAt ⟨Nat.le_of_ble_eq_true rfl, Nat.le_of_ble_eq_true rfl⟩, ht _ q642, ht _ qs24⟩ (z_preV hK (va_recv hK.1 hM.1 (ci := 10) (q0 := 0) rfl rfl)) rfl rfl hl.1 rfl (lv_room (Nat.le_of_ble_eq_true rfl)) d_M_times_150 ⟨Nat.zero_le _, Nat.zero_le _⟩) (fun v193 hv192 => ?_)
                              obtain ⟨g194, hg194⟩ : ∃ y, y = (if (i - (nn / 16)) - 1 < dc then dg ((i - (nn / 16)) - 1) else 0) := ⟨_, rfl⟩
                              have hv192 : v193 = .int (nI g194) := by rw [hg194]; exact hv192
                              subst hv192
                              have hg194l : g194 < 65536 := by rw [hg194]; exact dgat hd _
                              have hg194d : g194 = z.natAbs / 2 ^ (16 * ((i - (nn / 16)) - 1)) % 65536 := by rw [hg194, digit_of hd, hdv]
                              refine lv_goto (tgt := 157) hx hb d_M_times_153 (by decide) ?_
                              refine lv_istore (lv' := [(10, .int (nI g194)), (9, .int 0), (8, .int (nI i)), (6, .int (nI (nn / 16))), (7, .int (nI (nn % 16))), (5, .int (nI (nb z.natAbs))), (4, .int 0), (0, .ref (mm 0)), (1, .int (nI j)), (2, .int (nI j9)), (3, .int (nI nn))]) hx hb d_M_times_157 hl (by decide) rfl (fun ls hl => ?_)
                              refine lv_aload_n hx hb d_M_times_159 rfl (lv_at hl 7 rfl) ?_
                              refine va_get (D := D) (ci := 10) (v := .ref (mm 9)) (C := "ValueTreesModel") (T := T_M) (N := 12) hx hb ht in_M hown hK.1 hM.1 0 rfl rfl 11 (by decide) (ht _ q550) (fun _ h9 => h9) rfl d_M_times_160 ?_
                              refine lv_iload hx hb d_M_times_163 (lv_at hl 2 rfl) ?_
                              refine lv_iload hx hb d_M_times_165 (lv_at hl 1 rfl) ?_
                              refine lv_iload hx hb d_M_times_167 (lv_at hl 4 rfl) ?_
                              refine lv_ishl hx hb d_M_times_169 ?_
                              rw [show ((0 <<< ((nI (nn % 16)) &&& 31)) : Int32) = nI (0 * 2 ^ (nn % 16)) from nI_shlr (n := 0) (r := nn % 16) (by omega) (Nat.lt_trans (hi_lt (by omega) (by omega)) (by decide))]
                              refine lv_iload hx hb d_M_times_170 (lv_at hl 0 rfl) ?_
                              refine lv_bipush (v := 16) hx hb d_M_times_172 (by decide) ?_
                              refine lv_iload hx hb d_M_times_174 (lv_at hl 4 rfl) ?_
                              refine lv_isub hx hb d_M_times_176 ?_
                              rw [show ((16 - (nI (nn % 16))) : Int32) = nI (16 - (nn % 16)) from pk_sub (a := 16) (b := (nn % 16)) (by omega)]
                              refine lv_ishr hx hb d_M_times_177 ?_
                              rw [show (((nI g194) >>> ((nI (16 - (nn % 16))) &&& 31)) : Int32) = nI (g194 / 2 ^ (16 - nn % 16)) from nI_shr (n := g194) (r := 16 - nn % 16) (by omega) (by omega)]
                              refine lv_ior hx hb d_M_times_178 ?_
                              rw [show (((nI (0 * 2 ^ (nn % 16))) ||| (nI (g194 / 2 ^ (16 - nn % 16)))) : Int32) = nI (0 * 2 ^ (nn % 16) + g194 / 2 ^ (16 - nn % 16)) from nI_or_r (lo_lt (by omega) (by omega))]
                              refine lv_ldc (v := 65535) hx hb hown (hts (.constant "ValueTreesModel" 130 65535) (by decide +kernel)) d_M_times_179 ?_
                              refine lv_iand hx hb d_M_times_181 ?_
                              rw [show (((nI (0 * 2 ^ (nn % 16) + g194 / 2 ^ (16 - nn % 16))) &&& 65535) : Int32) = nI ((0 * 2 ^ (nn % 16) + g194 / 2 ^ (16 - nn % 16)) % 65536) from nI_and65535 (by have h9 := hi_lt (x := 0) (r := nn % 16) (by omega) (by omega); have h8 := lo_lt (x := g194) (r := nn % 16) (by omega) (by omega); have h7 : 2 ^ (nn % 16) ≤ 2 ^ 15 := Nat.pow_le_pow_right (by decide) (by omega); omega)]
                              have hnew : (0 * 2 ^ (nn % 16) + g194 / 2 ^ (16 - nn % 16)) % 65536 = P / 65536 ^ i % 65536 := by
                                exfalso; omega
                              refine m_ast_sh hx hb hK hM hS i rfl (by omega) ((0 * 2 ^ (nn % 16) + g194 / 2 ^ (16 - nn % 16)) % 65536) rfl d_M_times_182 (fun H locs hM hS => ?_)
                              have hM : mAt D dT mm wd lf rt tc ty F sz Wk wz dg dc (updN sh i ((0 * 2 ^ (nn % 16) + g194 / 2 ^ (16 - nn % 16)) % 65536)) H := hM
                              refine lv_iinc (v := (nI i - 1)) (lv' := [(8, .int (nI i - 1)), (10, .int (nI g194)), (9, .int 0), (6, .int (nI (nn / 16))), (7, .int (nI (nn % 16))), (5, .int (nI (nb z.natAbs))), (4, .int 0), (0, .ref (mm 0)), (1, .int (nI j)), (2, .int (nI j9)), (3, .int (nI nn))]) hx hb d_M_times_183 hl (k := 2) rfl (by rw [Int32.sub_eq_add_neg]; rfl) (by decide) rfl (fun ls hl => ?_)
                              refine lv_goto (tgt := 108) hx hb d_M_times_186 (by decide) ?_
                              exact ih108 i (by omega) (by omega) _ _ _ (fun q h1 h2 => by rcases Nat.eq_or_lt_of_le h1 with e | e <;> first | (subst e; rw [updN_s]; exact hnew) | (rw [updN_n (by omega)]; exact hsh q e h2)) hM hS ls (lv_sub hl [0, 3, 4, 5, 6, 7, 8, 9, 10] rfl)
                          · have nc190 : ¬ i < (nn / 16) := fun h9 => c190 ((nI_ltI (a := i) (b := (nn / 16)) (by omega) (by omega)).mpr h9)
                            refine lv_aload_n hx hb d_M_times_120 rfl (lv_at hl 5 rfl) ?_
                            refine lv_iload hx hb d_M_times_121 (lv_at hl 0 rfl) ?_
                            refine lv_iload hx hb d_M_times_123 (lv_at hl 1 rfl) ?_
                            refine lv_isub hx hb d_M_times_125 ?_
                            rw [show (((nI i) - (nI (nn / 16))) : Int32) = nI (i - (nn / 16)) from pk_sub (a := i) (b := (nn / 16)) (by omega)]
                            refine z_callR (va_runV (C := "ValueTreesModel") (As := [.int (nI (i - (nn / 16)))]) (rest := []) ⟨hx, hb, hml, hown, hts⟩ (c_M_digitAt l D dT _ mm wd lf rt tc ty F sz Wk wz dg dc sh hM (i - (nn / 16)) (by omega) hdc) ⟨callB_of 1 hts (gI gd_up gd_c q643) rfl rfl rfl (ht _ q10) (ht _ q640) hd_M_digitAt ⟨Nat.le_of_ble_eq_true rfl, Nat.le_of_ble_eq_true rfl⟩, ht _ q642, ht _ qs24⟩ (z_preV hK (va_recv hK.1 hM.1 (ci := 10) (q0 := 0) rfl rfl)) rfl rfl hl.1 rfl (lv_room (Nat.le_of_ble_eq_true rfl)) d_M_times_126 ⟨Nat.zero_le _, Nat.zero_le _⟩) (fun v196 hv195 => ?_)
                            obtain ⟨g197, hg197⟩ : ∃ y, y = (if i - (nn / 16) < dc then dg (i - (nn / 16)) else 0) := ⟨_, rfl⟩
                            have hv195 : v196 = .int (nI g197) := by rw [hg197]; exact hv195
                            subst hv195
                            have hg197l : g197 < 65536 := by rw [hg197]; exact dgat hd _
                            have hg197d : g197 = z.natAbs / 2 ^ (16 * (i - (nn / 16))) % 65536 := by rw [hg197, digit_of hd, hdv]
                            refine lv_goto (tgt := 133) hx hb d_M_times_129 (by decide) ?_
                            refine lv_istore (lv' := [(9, .int (nI g197)), (8, .int (nI i)), (6, .int (nI (nn / 16))), (7, .int (nI (nn % 16))), (5, .int (nI (nb z.natAbs))), (4, .int 0), (0, .ref (mm 0)), (1, .int (nI j)), (2, .int (nI j9)), (3, .int (nI nn))]) hx hb d_M_times_133 hl (by decide) rfl (fun ls hl => ?_)
                            refine lv_iload hx hb d_M_times_135 (lv_at hl 1 rfl) ?_
                            refine lv_iload hx hb d_M_times_137 (lv_at hl 2 rfl) ?_
                            refine lv_icmp_le (tgt := 156) hx hb d_M_times_139 (by decide) (fun c198 => ?_) (fun c198 => ?_)
                            · have nc198 : i ≤ (nn / 16) := (nI_leI (a := i) (b := (nn / 16)) (by omega) (by omega)).mp c198
                              refine lv_iconst (v := 0) hx hb d_M_times_156 (by decide) ?_
                              refine lv_istore (lv' := [(10, .int 0), (9, .int (nI g197)), (8, .int (nI i)), (6, .int (nI (nn / 16))), (7, .int (nI (nn % 16))), (5, .int (nI (nb z.natAbs))), (4, .int 0), (0, .ref (mm 0)), (1, .int (nI j)), (2, .int (nI j9)), (3, .int (nI nn))]) hx hb d_M_times_157 hl (by decide) rfl (fun ls hl => ?_)
                              refine lv_aload_n hx hb d_M_times_159 rfl (lv_at hl 7 rfl) ?_
                              refine va_get (D := D) (ci := 10) (v := .ref (mm 9)) (C := "ValueTreesModel") (T := T_M) (N := 12) hx hb ht in_M hown hK.1 hM.1 0 rfl rfl 11 (by decide) (ht _ q550) (fun _ h9 => h9) rfl d_M_times_160 ?_
                              refine lv_iload hx hb d_M_times_163 (lv_at hl 2 rfl) ?_
                              refine lv_iload hx hb d_M_times_165 (lv_at hl 1 rfl) ?_
                              refine lv_iload hx hb d_M_times_167 (lv_at hl 4 rfl) ?_
                              refine lv_ishl hx hb d_M_times_169 ?_
                              rw [show (((nI g197) <<< ((nI (nn % 16)) &&& 31)) : Int32) = nI (g197 * 2 ^ (nn % 16)) from nI_shlr (n := g197) (r := nn % 16) (by omega) (Nat.lt_trans (hi_lt (by omega) (by omega)) (by decide))]
                              refine lv_iload hx hb d_M_times_170 (lv_at hl 0 rfl) ?_
                              refine lv_bipush (v := 16) hx hb d_M_times_172 (by decide) ?_
                              refine lv_iload hx hb d_M_times_174 (lv_at hl 4 rfl) ?_
                              refine lv_isub hx hb d_M_times_176 ?_
                              rw [show ((16 - (nI (nn % 16))) : Int32) = nI (16 - (nn % 16)) from pk_sub (a := 16) (b := (nn % 16)) (by omega)]
                              refine lv_ishr hx hb d_M_times_177 ?_
                              rw [show ((0 >>> ((nI (16 - (nn % 16))) &&& 31)) : Int32) = nI (0 / 2 ^ (16 - nn % 16)) from nI_shr (n := 0) (r := 16 - nn % 16) (by omega) (by omega)]
                              refine lv_ior hx hb d_M_times_178 ?_
                              rw [show (((nI (g197 * 2 ^ (nn % 16))) ||| (nI (0 / 2 ^ (16 - nn % 16)))) : Int32) = nI (g197 * 2 ^ (nn % 16) + 0 / 2 ^ (16 - nn % 16)) from nI_or_r (lo_lt (by omega) (by omega))]
                              refine lv_ldc (v := 65535) hx hb hown (hts (.constant "ValueTreesModel" 130 65535) (by decide +kernel)) d_M_times_179 ?_
                              refine lv_iand hx hb d_M_times_181 ?_
                              rw [show (((nI (g197 * 2 ^ (nn % 16) + 0 / 2 ^ (16 - nn % 16))) &&& 65535) : Int32) = nI ((g197 * 2 ^ (nn % 16) + 0 / 2 ^ (16 - nn % 16)) % 65536) from nI_and65535 (by have h9 := hi_lt (x := g197) (r := nn % 16) (by omega) (by omega); have h8 := lo_lt (x := 0) (r := nn % 16) (by omega) (by omega); have h7 : 2 ^ (nn % 16) ≤ 2 ^ 15 := Nat.pow_le_pow_right (by decide) (by omega); omega)]
                              have hnew : (g197 * 2 ^ (nn % 16) + 0 / 2 ^ (16 - nn % 16)) % 65536 = P / 65536 ^ i % 65536 := by
                                rw [hP, shl_a (show nn / 16 = i by omega), hg197d, show i - nn / 16 = 0 by omega, Nat.zero_div, Nat.add_zero]
                              refine m_ast_sh hx hb hK hM hS i rfl (by omega) ((g197 * 2 ^ (nn % 16) + 0 / 2 ^ (16 - nn % 16)) % 65536) rfl d_M_times_182 (fun H locs hM hS => ?_)
                              have hM : mAt D dT mm wd lf rt tc ty F sz Wk wz dg dc (updN sh i ((g197 * 2 ^ (nn % 16) + 0 / 2 ^ (16 - nn % 16)) % 65536)) H := hM
                              refine lv_iinc (v := (nI i - 1)) (lv' := [(8, .int (nI i - 1)), (10, .int 0), (9, .int (nI g197)), (6, .int (nI (nn / 16))), (7, .int (nI (nn % 16))), (5, .int (nI (nb z.natAbs))), (4, .int 0), (0, .ref (mm 0)), (1, .int (nI j)), (2, .int (nI j9)), (3, .int (nI nn))]) hx hb d_M_times_183 hl (k := 2) rfl (by rw [Int32.sub_eq_add_neg]; rfl) (by decide) rfl (fun ls hl => ?_)
                              refine lv_goto (tgt := 108) hx hb d_M_times_186 (by decide) ?_
                              exact ih108 i (by omega) (by omega) _ _ _ (fun q h1 h2 => by rcases Nat.eq_or_lt_of_le h1 with e | e <;> first | (subst e; rw [updN_s]; exact hnew) | (rw [updN_n (by omega)]; exact hsh q e h2)) hM hS ls (lv_sub hl [0, 3, 4, 5, 6, 7, 8, 9, 10] rfl)
                            · have nc198 : ¬ i ≤ (nn / 16) := fun h9 => c198 ((nI_leI (a := i) (b := (nn / 16)) (by omega) (by omega)).mpr h9)
                              refine lv_aload_n hx hb d_M_times_142 rfl (lv_at hl 6 rfl) ?_
                              refine lv_iload hx hb d_M_times_143 (lv_at hl 1 rfl) ?_
                              refine lv_iload hx hb d_M_times_145 (lv_at hl 2 rfl) ?_
                              refine lv_isub hx hb d_M_times_147 ?_
                              rw [show (((nI i) - (nI (nn / 16))) : Int32) = nI (i - (nn / 16)) from pk_sub (a := i) (b := (nn / 16)) (by omega)]
                              refine lv_iconst (v := 1) hx hb d_M_times_148 (by decide) ?_
                              refine lv_isub hx hb d_M_times_149 ?_
                              rw [show (((nI (i - (nn / 16))) - 1) : Int32) = nI ((i - (nn / 16)) - 1) from pk_sub (a := (i - (nn / 16))) (b := 1) (by omega)]
                              refine z_callR (va_runV (C := "ValueTreesModel") (As := [.int (nI ((i - (nn / 16)) - 1))]) (rest := []) ⟨hx, hb, hml, hown, hts⟩ (c_M_digitAt l D dT _ mm wd lf rt tc ty F sz Wk wz dg dc sh hM ((i - (nn / 16)) - 1) (by omega) hdc) ⟨callB_of 1 hts (gI gd_up gd_c q643) rfl rfl rfl (ht _ q10) (ht _ q640) hd_M_digitAt ⟨Nat.le_of_ble_eq_true rfl, Nat.le_of_ble_eq_true rfl⟩, ht _ q642, ht _ qs24⟩ (z_preV hK (va_recv hK.1 hM.1 (ci := 10) (q0 := 0) rfl rfl)) rfl rfl hl.1 rfl (lv_room (Nat.le_of_ble_eq_true rfl)) d_M_times_150 ⟨Nat.zero_le _, Nat.zero_le _⟩) (fun v200 hv199 => ?_)
                              obtain ⟨g201, hg201⟩ : ∃ y, y = (if (i - (nn / 16)) - 1 < dc then dg ((i - (nn / 16)) - 1) else 0) := ⟨_, rfl⟩
                              have hv199 : v200 = .int (nI g201) := by rw [hg201]; exact hv199
                              subst hv199
                              have hg201l : g201 < 65536 := by rw [hg201]; exact dgat hd _
                              have hg201d : g201 = z.natAbs / 2 ^ (16 * ((i - (nn / 16)) - 1)) % 65536 := by rw [hg201, digit_of hd, hdv]
                              refine lv_goto (tgt := 157) hx hb d_M_times_153 (by decide) ?_
                              refine lv_istore (lv' := [(10, .int (nI g201)), (9, .int (nI g197)), (8, .int (nI i)), (6, .int (nI (nn / 16))), (7, .int (nI (nn % 16))), (5, .int (nI (nb z.natAbs))), (4, .int 0), (0, .ref (mm 0)), (1, .int (nI j)), (2, .int (nI j9)), (3, .int (nI nn))]) hx hb d_M_times_157 hl (by decide) rfl (fun ls hl => ?_)
                              refine lv_aload_n hx hb d_M_times_159 rfl (lv_at hl 7 rfl) ?_
                              refine va_get (D := D) (ci := 10) (v := .ref (mm 9)) (C := "ValueTreesModel") (T := T_M) (N := 12) hx hb ht in_M hown hK.1 hM.1 0 rfl rfl 11 (by decide) (ht _ q550) (fun _ h9 => h9) rfl d_M_times_160 ?_
                              refine lv_iload hx hb d_M_times_163 (lv_at hl 2 rfl) ?_
                              refine lv_iload hx hb d_M_times_165 (lv_at hl 1 rfl) ?_
                              refine lv_iload hx hb d_M_times_167 (lv_at hl 4 rfl) ?_
                              refine lv_ishl hx hb d_M_times_169 ?_
                              rw [show (((nI g197) <<< ((nI (nn % 16)) &&& 31)) : Int32) = nI (g197 * 2 ^ (nn % 16)) from nI_shlr (n := g197) (r := nn % 16) (by omega) (Nat.lt_trans (hi_lt (by omega) (by omega)) (by decide))]
                              refine lv_iload hx hb d_M_times_170 (lv_at hl 0 rfl) ?_
                              refine lv_bipush (v := 16) hx hb d_M_times_172 (by decide) ?_
                              refine lv_iload hx hb d_M_times_174 (lv_at hl 4 rfl) ?_
                              refine lv_isub hx hb d_M_times_176 ?_
                              rw [show ((16 - (nI (nn % 16))) : Int32) = nI (16 - (nn % 16)) from pk_sub (a := 16) (b := (nn % 16)) (by omega)]
                              refine lv_ishr hx hb d_M_times_177 ?_
                              rw [show (((nI g201) >>> ((nI (16 - (nn % 16))) &&& 31)) : Int32) = nI (g201 / 2 ^ (16 - nn % 16)) from nI_shr (n := g201) (r := 16 - nn % 16) (by omega) (by omega)]
                              refine lv_ior hx hb d_M_times_178 ?_
                              rw [show (((nI (g197 * 2 ^ (nn % 16))) ||| (nI (g201 / 2 ^ (16 - nn % 16)))) : Int32) = nI (g197 * 2 ^ (nn % 16) + g201 / 2 ^ (16 - nn % 16)) from nI_or_r (lo_lt (by omega) (by omega))]
                              refine lv_ldc (v := 65535) hx hb hown (hts (.constant "ValueTreesModel" 130 65535) (by decide +kernel)) d_M_times_179 ?_
                              refine lv_iand hx hb d_M_times_181 ?_
                              rw [show (((nI (g197 * 2 ^ (nn % 16) + g201 / 2 ^ (16 - nn % 16))) &&& 65535) : Int32) = nI ((g197 * 2 ^ (nn % 16) + g201 / 2 ^ (16 - nn % 16)) % 65536) from nI_and65535 (by have h9 := hi_lt (x := g197) (r := nn % 16) (by omega) (by omega); have h8 := lo_lt (x := g201) (r := nn % 16) (by omega) (by omega); have h7 : 2 ^ (nn % 16) ≤ 2 ^ 15 := Nat.pow_le_pow_right (by decide) (by omega); omega)]
                              have hnew : (g197 * 2 ^ (nn % 16) + g201 / 2 ^ (16 - nn % 16)) % 65536 = P / 65536 ^ i % 65536 := by
                                have e8 : i = nn / 16 + (i - nn / 16 - 1 + 1) := by omega
                                have h8 := shl_b (N := z.natAbs) (n := nn) (q := i - nn / 16 - 1)
                                rw [← e8] at h8
                                rw [hP, h8, hg197d, hg201d, show i - nn / 16 - 1 + 1 = i - nn / 16 by omega]
                              refine m_ast_sh hx hb hK hM hS i rfl (by omega) ((g197 * 2 ^ (nn % 16) + g201 / 2 ^ (16 - nn % 16)) % 65536) rfl d_M_times_182 (fun H locs hM hS => ?_)
                              have hM : mAt D dT mm wd lf rt tc ty F sz Wk wz dg dc (updN sh i ((g197 * 2 ^ (nn % 16) + g201 / 2 ^ (16 - nn % 16)) % 65536)) H := hM
                              refine lv_iinc (v := (nI i - 1)) (lv' := [(8, .int (nI i - 1)), (10, .int (nI g201)), (9, .int (nI g197)), (6, .int (nI (nn / 16))), (7, .int (nI (nn % 16))), (5, .int (nI (nb z.natAbs))), (4, .int 0), (0, .ref (mm 0)), (1, .int (nI j)), (2, .int (nI j9)), (3, .int (nI nn))]) hx hb d_M_times_183 hl (k := 2) rfl (by rw [Int32.sub_eq_add_neg]; rfl) (by decide) rfl (fun ls hl => ?_)
                              refine lv_goto (tgt := 108) hx hb d_M_times_186 (by decide) ?_
                              exact ih108 i (by omega) (by omega) _ _ _ (fun q h1 h2 => by rcases Nat.eq_or_lt_of_le h1 with e | e <;> first | (subst e; rw [updN_s]; exact hnew) | (rw [updN_n (by omega)]; exact hsh q e h2)) hM hS ls (lv_sub hl [0, 3, 4, 5, 6, 7, 8, 9, 10] rfl)
                    exact loop172 (dc + nn / 16 + 2) (dc + nn / 16 + 1) (Nat.le_refl _) (by omega) _ _ sh (fun q h1 h2 => absurd h1 (by omega)) hM hS ls (lv_sub hl [0, 2, 1, 3, 4, 5, 6, 7, 8] rfl)
                  · have nc170 : ¬ ((nb z.natAbs) + nn) ≤ 63 := fun h9 => c170 ((nI_leI (a := ((nb z.natAbs) + nn)) (b := 63) (by omega) (by omega)).mpr h9)
                    refine lv_iconst (v := (-1)) hx hb d_M_times_76 (by decide) ?_
                    refine z_iretQ hx hb hr hlocks d_M_times_77 hS (Nat.le_refl _) (Nat.le_refl _) ?_
                    have eo : o_times RV (nI j9) (nI nn) = none := by rw [ti_ev hj9 hV8 ev hn9]; exact if_neg (fun h9 => by rcases h9 with h9 | h9 <;> first | omega | (split at h9 <;> omega))
                    rw [eo]
                    exact ⟨rfl, _, _, _, _, _, _, _, _, _, _, _, hM, hO, hT, hR, hWk⟩
          · refine lv_iconst (v := (-1)) hx hb d_M_times_29 (by decide) ?_
            refine z_iretQ hx hb hr hlocks d_M_times_30 hS (Nat.le_refl _) (Nat.le_refl _) ?_
            have eo : o_times RV (nI j9) n = none := ti_n (Or.inr (Int32.not_le.mp c19))
            rw [eo]
            exact ⟨rfl, _, _, _, _, _, _, _, _, _, _, _, hM, hO, hT, hR, hWk⟩
      · rw [if_neg hq16] at hv14
        subst hv14
        refine lv_if_eq (tgt := 29) hx hb d_M_times_15 (by decide) (fun _ => ?_) (fun c202 => absurd c202 (by decide))
        refine lv_iconst (v := (-1)) hx hb d_M_times_29 (by decide) ?_
        refine z_iretQ hx hb hr hlocks d_M_times_30 hS (Nat.le_refl _) (Nat.le_refl _) ?_
        have eo : o_times RV (nI j9) n = none := ti_w hj9 hV8 hw8 (fun h9 => hq16 ((isNum_nI (by have := (hO.2.2 _ ht8).1; omega)).mpr h9))
        rw [eo]
        exact ⟨rfl, _, _, _, _, _, _, _, _, _, _, _, hM, hO, hT, hR, hWk⟩
  · rw [if_neg hq3] at hv1
    subst hv1
    refine lv_if_eq (tgt := 29) hx hb d_M_times_4 (by decide) (fun _ => ?_) (fun c203 => absurd c203 (by decide))
    refine lv_iconst (v := (-1)) hx hb d_M_times_29 (by decide) ?_
    refine z_iretQ hx hb hr hlocks d_M_times_30 hS (Nat.le_refl _) (Nat.le_refl _) ?_
    rw [kp_out hq3]
    exact ⟨rfl, _, _, _, _, _, _, _, _, _, _, _, hM, hO, hT, hR, hWk⟩
