abbrev b_M_rewrite : ByteArray := prog_12_method_46_code
abbrev y_M_rewrite : MethodName := ⟨"ValueTreesModel", "rewrite", "(IIIIII)I"⟩
abbrev w_M_rewrite : List Cond := .code y_M_rewrite b_M_rewrite 9 (Option.some .int) :: gt
theorem hd_M_rewrite : (y_M_rewrite).cls ≠ "java/lang/invoke/MethodHandle" ∧ (y_M_rewrite).cls ≠ "java/lang/invoke/VarHandle" ∧ (parseMethodDescriptor (y_M_rewrite).desc).map (fun d => d.parameters.length) = some 6 := by decide +kernel
theorem d_M_rewrite_0 : decode b_M_rewrite 0 = .ok (.aload_n 0, 1) := by decide +kernel
theorem d_M_rewrite_1 : decode b_M_rewrite 1 = .ok (.getfield 19, 3) := by decide +kernel
theorem d_M_rewrite_4 : decode b_M_rewrite 4 = .ok (.iload_n 2, 1) := by decide +kernel
theorem d_M_rewrite_5 : decode b_M_rewrite 5 = .ok (.iaload, 1) := by decide +kernel
theorem d_M_rewrite_6 : decode b_M_rewrite 6 = .ok (.istore 7, 2) := by decide +kernel
theorem d_M_rewrite_8 : decode b_M_rewrite 8 = .ok (.aload_n 0, 1) := by decide +kernel
theorem d_M_rewrite_9 : decode b_M_rewrite 9 = .ok (.iconst 0, 1) := by decide +kernel
theorem d_M_rewrite_10 : decode b_M_rewrite 10 = .ok (.putfield 98, 3) := by decide +kernel
theorem d_M_rewrite_13 : decode b_M_rewrite 13 = .ok (.aload_n 0, 1) := by decide +kernel
theorem d_M_rewrite_14 : decode b_M_rewrite 14 = .ok (.iconst 2, 1) := by decide +kernel
theorem d_M_rewrite_15 : decode b_M_rewrite 15 = .ok (.invokevirtual 101, 3) := by decide +kernel
theorem d_M_rewrite_18 : decode b_M_rewrite 18 = .ok (.aload_n 0, 1) := by decide +kernel
theorem d_M_rewrite_19 : decode b_M_rewrite 19 = .ok (.iconst 0, 1) := by decide +kernel
theorem d_M_rewrite_20 : decode b_M_rewrite 20 = .ok (.invokevirtual 131, 3) := by decide +kernel
theorem d_M_rewrite_23 : decode b_M_rewrite 23 = .ok (.aload_n 0, 1) := by decide +kernel
theorem d_M_rewrite_24 : decode b_M_rewrite 24 = .ok (.iload_n 2, 1) := by decide +kernel
theorem d_M_rewrite_25 : decode b_M_rewrite 25 = .ok (.invokestatic 112, 3) := by decide +kernel
theorem d_M_rewrite_28 : decode b_M_rewrite 28 = .ok (.iconst 5, 1) := by decide +kernel
theorem d_M_rewrite_29 : decode b_M_rewrite 29 = .ok (.iadd, 1) := by decide +kernel
theorem d_M_rewrite_30 : decode b_M_rewrite 30 = .ok (.iload_n 3, 1) := by decide +kernel
theorem d_M_rewrite_31 : decode b_M_rewrite 31 = .ok (.invokevirtual 139, 3) := by decide +kernel
theorem d_M_rewrite_34 : decode b_M_rewrite 34 = .ok (.iload 5, 2) := by decide +kernel
theorem d_M_rewrite_36 : decode b_M_rewrite 36 = .ok (.ifCond .lt 76, 3) := by decide +kernel
theorem d_M_rewrite_39 : decode b_M_rewrite 39 = .ok (.aload_n 0, 1) := by decide +kernel
theorem d_M_rewrite_40 : decode b_M_rewrite 40 = .ok (.iload 7, 2) := by decide +kernel
theorem d_M_rewrite_42 : decode b_M_rewrite 42 = .ok (.invokevirtual 143, 3) := by decide +kernel
theorem d_M_rewrite_45 : decode b_M_rewrite 45 = .ok (.ifCond .eq 14, 3) := by decide +kernel
theorem d_M_rewrite_48 : decode b_M_rewrite 48 = .ok (.aload_n 0, 1) := by decide +kernel
theorem d_M_rewrite_49 : decode b_M_rewrite 49 = .ok (.bipush 7, 2) := by decide +kernel
theorem d_M_rewrite_51 : decode b_M_rewrite 51 = .ok (.invokevirtual 101, 3) := by decide +kernel
theorem d_M_rewrite_54 : decode b_M_rewrite 54 = .ok (.aload_n 0, 1) := by decide +kernel
theorem d_M_rewrite_55 : decode b_M_rewrite 55 = .ok (.iconst 4, 1) := by decide +kernel
theorem d_M_rewrite_56 : decode b_M_rewrite 56 = .ok (.invokevirtual 101, 3) := by decide +kernel
theorem d_M_rewrite_59 : decode b_M_rewrite 59 = .ok (.aload_n 0, 1) := by decide +kernel
theorem d_M_rewrite_60 : decode b_M_rewrite 60 = .ok (.iload 5, 2) := by decide +kernel
theorem d_M_rewrite_62 : decode b_M_rewrite 62 = .ok (.invokestatic 112, 3) := by decide +kernel
theorem d_M_rewrite_65 : decode b_M_rewrite 65 = .ok (.iload 5, 2) := by decide +kernel
theorem d_M_rewrite_67 : decode b_M_rewrite 67 = .ok (.invokestatic 112, 3) := by decide +kernel
theorem d_M_rewrite_70 : decode b_M_rewrite 70 = .ok (.aload_n 0, 1) := by decide +kernel
theorem d_M_rewrite_71 : decode b_M_rewrite 71 = .ok (.getfield 26, 3) := by decide +kernel
theorem d_M_rewrite_74 : decode b_M_rewrite 74 = .ok (.iload 5, 2) := by decide +kernel
theorem d_M_rewrite_76 : decode b_M_rewrite 76 = .ok (.iaload, 1) := by decide +kernel
theorem d_M_rewrite_77 : decode b_M_rewrite 77 = .ok (.iadd, 1) := by decide +kernel
theorem d_M_rewrite_78 : decode b_M_rewrite 78 = .ok (.invokevirtual 139, 3) := by decide +kernel
theorem d_M_rewrite_81 : decode b_M_rewrite 81 = .ok (.aload_n 0, 1) := by decide +kernel
theorem d_M_rewrite_82 : decode b_M_rewrite 82 = .ok (.iload 7, 2) := by decide +kernel
theorem d_M_rewrite_84 : decode b_M_rewrite 84 = .ok (.invokevirtual 143, 3) := by decide +kernel
theorem d_M_rewrite_87 : decode b_M_rewrite 87 = .ok (.ifCond .eq 25, 3) := by decide +kernel
theorem d_M_rewrite_90 : decode b_M_rewrite 90 = .ok (.aload_n 0, 1) := by decide +kernel
theorem d_M_rewrite_91 : decode b_M_rewrite 91 = .ok (.iload 6, 2) := by decide +kernel
theorem d_M_rewrite_93 : decode b_M_rewrite 93 = .ok (.invokestatic 112, 3) := by decide +kernel
theorem d_M_rewrite_96 : decode b_M_rewrite 96 = .ok (.iload 6, 2) := by decide +kernel
theorem d_M_rewrite_98 : decode b_M_rewrite 98 = .ok (.invokestatic 112, 3) := by decide +kernel
theorem d_M_rewrite_101 : decode b_M_rewrite 101 = .ok (.aload_n 0, 1) := by decide +kernel
theorem d_M_rewrite_102 : decode b_M_rewrite 102 = .ok (.getfield 26, 3) := by decide +kernel
theorem d_M_rewrite_105 : decode b_M_rewrite 105 = .ok (.iload 6, 2) := by decide +kernel
theorem d_M_rewrite_107 : decode b_M_rewrite 107 = .ok (.iaload, 1) := by decide +kernel
theorem d_M_rewrite_108 : decode b_M_rewrite 108 = .ok (.iadd, 1) := by decide +kernel
theorem d_M_rewrite_109 : decode b_M_rewrite 109 = .ok (.invokevirtual 139, 3) := by decide +kernel
theorem d_M_rewrite_112 : decode b_M_rewrite 112 = .ok (.aload_n 0, 1) := by decide +kernel
theorem d_M_rewrite_113 : decode b_M_rewrite 113 = .ok (.iload 4, 2) := by decide +kernel
theorem d_M_rewrite_115 : decode b_M_rewrite 115 = .ok (.iload_n 2, 1) := by decide +kernel
theorem d_M_rewrite_116 : decode b_M_rewrite 116 = .ok (.invokestatic 112, 3) := by decide +kernel
theorem d_M_rewrite_119 : decode b_M_rewrite 119 = .ok (.aload_n 0, 1) := by decide +kernel
theorem d_M_rewrite_120 : decode b_M_rewrite 120 = .ok (.getfield 26, 3) := by decide +kernel
theorem d_M_rewrite_123 : decode b_M_rewrite 123 = .ok (.iload_n 2, 1) := by decide +kernel
theorem d_M_rewrite_124 : decode b_M_rewrite 124 = .ok (.iaload, 1) := by decide +kernel
theorem d_M_rewrite_125 : decode b_M_rewrite 125 = .ok (.iadd, 1) := by decide +kernel
theorem d_M_rewrite_126 : decode b_M_rewrite 126 = .ok (.invokevirtual 139, 3) := by decide +kernel
theorem d_M_rewrite_129 : decode b_M_rewrite 129 = .ok (.aload_n 0, 1) := by decide +kernel
theorem d_M_rewrite_130 : decode b_M_rewrite 130 = .ok (.getfield 98, 3) := by decide +kernel
theorem d_M_rewrite_133 : decode b_M_rewrite 133 = .ok (.istore 8, 2) := by decide +kernel
theorem d_M_rewrite_135 : decode b_M_rewrite 135 = .ok (.aload_n 0, 1) := by decide +kernel
theorem d_M_rewrite_136 : decode b_M_rewrite 136 = .ok (.iconst 1, 1) := by decide +kernel
theorem d_M_rewrite_137 : decode b_M_rewrite 137 = .ok (.putfield 98, 3) := by decide +kernel
theorem d_M_rewrite_140 : decode b_M_rewrite 140 = .ok (.aload_n 0, 1) := by decide +kernel
theorem d_M_rewrite_141 : decode b_M_rewrite 141 = .ok (.iload 8, 2) := by decide +kernel
theorem d_M_rewrite_143 : decode b_M_rewrite 143 = .ok (.iconst 5, 1) := by decide +kernel
theorem d_M_rewrite_144 : decode b_M_rewrite 144 = .ok (.isub, 1) := by decide +kernel
theorem d_M_rewrite_145 : decode b_M_rewrite 145 = .ok (.invokevirtual 131, 3) := by decide +kernel
theorem d_M_rewrite_148 : decode b_M_rewrite 148 = .ok (.aload_n 0, 1) := by decide +kernel
theorem d_M_rewrite_149 : decode b_M_rewrite 149 = .ok (.iload 8, 2) := by decide +kernel
theorem d_M_rewrite_151 : decode b_M_rewrite 151 = .ok (.putfield 98, 3) := by decide +kernel
theorem d_M_rewrite_154 : decode b_M_rewrite 154 = .ok (.aload_n 0, 1) := by decide +kernel
theorem d_M_rewrite_155 : decode b_M_rewrite 155 = .ok (.iload_n 1, 1) := by decide +kernel
theorem d_M_rewrite_156 : decode b_M_rewrite 156 = .ok (.iload 7, 2) := by decide +kernel
theorem d_M_rewrite_158 : decode b_M_rewrite 158 = .ok (.invokevirtual 121, 3) := by decide +kernel
theorem d_M_rewrite_161 : decode b_M_rewrite 161 = .ok (.ireturn, 1) := by decide +kernel
set_option maxHeartbeats 4000000 in
set_option maxRecDepth 100000 in
theorem c_M_rewrite_set (l : Launch) (D : va_G) (dT : Nat → ClassId) (H : Heap) (mm : Nat → Nat) (wd lf rt : Nat → Int32) (tc : Nat) (ty : Nat → Int32) (F : Nat → Nat) (sz : Nat → Int32) (Wk : Nat → Nat) (wz : Nat) (dg : Nat → Nat) (dc : Nat) (sh : Nat → Nat) (hM : mAt D dT mm wd lf rt tc ty F sz Wk wz dg dc sh H) (hF : ∀ k, F k < 256) (tb : Nat → TR) (hO : tOK tb tc) (hT : mT tb tc wd lf rt) (hWk : ∀ k, Wk k < 256) (j jt t b L : Nat) (px sx : List Nat) (hj : j < 16) (hjt : jt < 16) (htl : t < tc) (hwd : tW (tb t) = 12 ∨ tW (tb t) = 15 ∨ tW (tb t) = 16) (ety : ty jt = nI t) (esz : sz jt = nI L) (hL160 : L ≤ 160) (hfp : fAt F (160 * jt + 5) px) (hpl : px.length ≤ 155) (hfs : fAt F b sx) (hsl : sx.length ≤ 155) (hb9 : b + sx.length = 160 * jt + L) (jk : Nat) (kx : List Nat) (val : Int32) (hjk : jk < 16) (hw12 : tW (tb t) = 12) (hfk : fAt F (160 * jk) kx) (esk : sz jk = nI kx.length) (hkl : kx.length ≤ 160) : Met l y_M_rewrite w_M_rewrite ({ frames := 3, cells := 0, slots := 0, locals := 70 }) (z_P D dT [.ref (mm 0), .int (nI j), .int (nI jt), .int (nI (160 * jt + 5 + px.length)), .int (nI b), .int (nI jk), .int val] H) (z_Q (mA mm) (fun v H1 => kO D dT mm wd lf rt tc ty F sz j t (2 :: (size4 (px ++ ((kx : List Nat) ++ sx)).length ++ (px ++ ((kx : List Nat) ++ sx)))) v H1)) 0 0 (mA mm) := by
  refine Met.ofW (cc := b_M_rewrite) (maxL := 9) (ret := (Option.some .int)) (by decide) rfl ?_
  intro p e s m args below meth c s₁ B hml hv
  obtain ⟨rfl, rfl, hK⟩ := hv
  have hx := B.exec
  have hb := B.bytes
  have hr := B.returns
  have hts := atoms_spec (ws := w_M_rewrite) B.pre
  have ht : ∀ w9 ∈ gt, w9.before [.ref (mm 0), .int (nI j), .int (nI jt), .int (nI (160 * jt + 5 + px.length)), .int (nI b), .int (nI jk), .int val].toArray s = true := fun w9 h => hts w9 (List.mem_cons_of_mem _ h)
  have hown : s.vm.findClass "ValueTreesModel" = some m.cls := findClass_of_methodNamed B.named
  have hlocks := B.notSynchronized
  have hS : va_S (mA mm) s.heap s.heap [] := va_S.rf
  have hl := lv_entry ([.ref (mm 0), .int (nI j), .int (nI jt), .int (nI (160 * jt + 5 + px.length)), .int (nI b), .int (nI jk), .int val]) (n := 9) (Nat.le_of_ble_eq_true rfl)
  rw [lg_entry_eq]
  generalize (lg_sl ([.ref (mm 0), .int (nI j), .int (nI jt), .int (nI (160 * jt + 5 + px.length)), .int (nI b), .int (nI jk), .int val]) ++ List.replicate (9 - (lg_sl ([.ref (mm 0), .int (nI j), .int (nI jt), .int (nI (160 * jt + 5 + px.length)), .int (nI b), .int (nI jk), .int val])).length) Slot.unset).toArray = ls at hl ⊢
  have hl : lv_has ls 9 [(0, .ref (mm 0)), (1, .int (nI j)), (2, .int (nI jt)), (3, .int (nI (160 * jt + 5 + px.length))), (4, .int (nI b)), (5, .int (nI jk)), (6, .int val)] := hl
  have htc := hO.1
  refine lv_aload_n hx hb d_M_rewrite_0 rfl (lv_at hl 0 rfl) ?_
  refine va_get (D := D) (ci := 10) (v := .ref (mm 4)) (C := "ValueTreesModel") (T := T_M) (N := 12) hx hb ht in_M hown hK.1 hM.1 0 rfl rfl 4 (by decide) (ht _ q543) (fun _ h9 => h9) rfl d_M_rewrite_1 ?_
  refine lv_iload_n hx hb d_M_rewrite_4 rfl (lv_at hl 2 rfl) ?_
  refine z_iald hx hb hK (hM.1 4 _ rfl) jt rfl (by omega) (by decide) d_M_rewrite_5 ?_
  rw [ety]
  refine lv_istore (lv' := [(7, .int (nI t)), (0, .ref (mm 0)), (1, .int (nI j)), (2, .int (nI jt)), (3, .int (nI (160 * jt + 5 + px.length))), (4, .int (nI b)), (5, .int (nI jk)), (6, .int val)]) hx hb d_M_rewrite_6 hl (by decide) rfl (fun ls hl => ?_)
  refine lv_aload_n hx hb d_M_rewrite_8 rfl (lv_at hl 1 rfl) ?_
  refine lv_iconst (v := 0) hx hb d_M_rewrite_9 (by decide) ?_
  refine m_put_wz hx hb ht hown hK hM hS (ht _ q547) 0 rfl d_M_rewrite_10 (fun H locs hM hS => ?_)
  have hM : mAt D dT mm wd lf rt tc ty F sz Wk 0 dg dc sh H := hM
  have hW : wAt Wk ([] : List Nat) := wAt_nil hWk
  have hM : mAt D dT mm wd lf rt tc ty F sz Wk (([] : List Nat).length) dg dc sh H := hM
  refine lv_aload_n hx hb d_M_rewrite_13 rfl (lv_at hl 1 rfl) ?_
  refine lv_iconst (v := 2) hx hb d_M_rewrite_14 (by decide) ?_
  refine z_callQ (va_runV (C := "ValueTreesModel") (As := [.int 2]) (rest := []) ⟨hx, hb, hml, hown, hts⟩ (c_M_lay l D dT _ mm wd lf rt tc ty F sz Wk ([] : List Nat) dg dc sh hM hW 2 (by (try simp only [List.length_append, List.length_cons, List.length_nil, size4_len]); omega)) ⟨callB_of 1 hts (gI gd_up gd_c q635) rfl rfl rfl (ht _ q10) (ht _ q632) hd_M_lay ⟨Nat.le_of_ble_eq_true rfl, Nat.le_of_ble_eq_true rfl⟩, ht _ q634, ht _ qs22⟩ (z_preV hK (va_recv hK.1 hM.1 (ci := 10) (q0 := 0) rfl rfl)) rfl rfl hl.1 rfl (lv_room (Nat.le_of_ble_eq_true rfl)) d_M_rewrite_15 ⟨Nat.le_refl _, Nat.le_refl _⟩) hS (fun _ h9 => h9) (fun v2 H locs hv1 hz3 hf4 hS => ?_)
  obtain ⟨rfl, Wk, hW, hWk5, hM⟩ := hv1
  refine W.eq (g2 := F0 m 18 ls []) rfl ?_
  refine lv_aload_n hx hb d_M_rewrite_18 rfl (lv_at hl 1 rfl) ?_
  refine lv_iconst (v := 0) hx hb d_M_rewrite_19 (by decide) ?_
  refine z_callQ (va_runV (C := "ValueTreesModel") (As := [.int 0]) (rest := []) ⟨hx, hb, hml, hown, hts⟩ (c_M_putSize l D dT _ mm wd lf rt tc ty F sz Wk (([] : List Nat) ++ [2 % 256]) dg dc sh hM hW 0 (by omega) (by (try simp only [List.length_append, List.length_cons, List.length_nil, size4_len]); omega)) ⟨callB_of 1 hts (gI gd_up gd_c q687) rfl rfl rfl (ht _ q10) (ht _ q684) hd_M_putSize ⟨Nat.le_of_ble_eq_true rfl, Nat.le_of_ble_eq_true rfl⟩, ht _ q686, ht _ qs32⟩ (z_preV hK (va_recv hK.1 hM.1 (ci := 10) (q0 := 0) rfl rfl)) rfl rfl hl.1 rfl (lv_room (Nat.le_of_ble_eq_true rfl)) d_M_rewrite_20 ⟨Nat.le_refl _, Nat.le_refl _⟩) hS (fun _ h9 => h9) (fun v7 H locs hv6 hz8 hf9 hS => ?_)
  obtain ⟨rfl, Wk, hW, hWk10, hM⟩ := hv6
  refine W.eq (g2 := F0 m 23 ls []) rfl ?_
  refine lv_aload_n hx hb d_M_rewrite_23 rfl (lv_at hl 1 rfl) ?_
  refine lv_iload_n hx hb d_M_rewrite_24 rfl (lv_at hl 3 rfl) ?_
  refine z_callR (va_runS (As := [.int (nI jt)]) (rest := [.ref (mm 0)]) ⟨hx, hb, hml, hown, hts⟩ (c_M_base l D dT _ (nI jt)) ⟨callB_of 1 hts (gI gd_up gd_c q650) rfl rfl rfl (ht _ q10) (ht _ q648) hd_M_base ⟨Nat.le_of_ble_eq_true rfl, Nat.le_of_ble_eq_true rfl⟩, ht _ q649⟩ (z_preS hK) rfl rfl hl.1 rfl (lv_room (Nat.le_of_ble_eq_true rfl)) d_M_rewrite_25 ⟨Nat.zero_le _, Nat.zero_le _⟩) (fun v12 hv11 => ?_)
  subst hv11
  rw [show (160 * nI jt : Int32) = nI (160 * jt) from pk_mul 160 jt]
  refine lv_iconst (v := 5) hx hb d_M_rewrite_28 (by decide) ?_
  refine lv_iadd hx hb d_M_rewrite_29 ?_
  rw [show (((nI (160 * jt)) + 5) : Int32) = nI ((160 * jt) + 5) from nI_add (160 * jt) 5]
  refine lv_iload_n hx hb d_M_rewrite_30 rfl (lv_at hl 4 rfl) ?_
  refine z_callQ (va_runV (C := "ValueTreesModel") (As := [.int (nI ((160 * jt) + 5)), .int (nI (160 * jt + 5 + px.length))]) (rest := []) ⟨hx, hb, hml, hown, hts⟩ (c_M_putFrom l D dT _ mm wd lf rt tc ty F sz Wk (([] : List Nat) ++ [2 % 256] ++ size4 0) dg dc sh hM hW hF ((160 * jt) + 5) px hfp (by omega) (by (try simp only [List.length_append, List.length_cons, List.length_nil, size4_len]); omega)) ⟨callB_of 2 hts (gI gd_up gd_c q707) rfl rfl rfl (ht _ q10) (ht _ q704) hd_M_putFrom ⟨Nat.le_of_ble_eq_true rfl, Nat.le_of_ble_eq_true rfl⟩, ht _ q706, ht _ qs33⟩ (z_preV hK (va_recv hK.1 hM.1 (ci := 10) (q0 := 0) rfl rfl)) rfl rfl hl.1 rfl (lv_room (Nat.le_of_ble_eq_true rfl)) d_M_rewrite_31 ⟨Nat.le_refl _, Nat.le_refl _⟩) hS (fun _ h9 => h9) (fun v14 H locs hv13 hz15 hf16 hS => ?_)
  obtain ⟨rfl, Wk, hW, hM⟩ := hv13
  refine W.eq (g2 := F0 m 34 ls []) rfl ?_
  refine lv_iload hx hb d_M_rewrite_34 (lv_at hl 6 rfl) ?_
  refine lv_if_lt (tgt := 112) hx hb d_M_rewrite_36 (by decide) (fun c17 => absurd c17 (nI_pos (by omega))) (fun c17 => ?_)
  refine lv_aload_n hx hb d_M_rewrite_39 rfl (lv_at hl 1 rfl) ?_
  refine lv_iload hx hb d_M_rewrite_40 (lv_at hl 0 rfl) ?_
  refine z_callR (va_runV (C := "ValueTreesModel") (As := [.int (nI t)]) (rest := []) ⟨hx, hb, hml, hown, hts⟩ (c_M_isKeyed l D dT _ mm wd lf rt tc ty F sz Wk ((([] : List Nat) ++ [2 % 256] ++ size4 0 ++ px).length) dg dc sh hM tb hO hT t (by omega)) ⟨callB_of 1 hts (gI gd_up gd_c q727) rfl rfl rfl (ht _ q10) (ht _ q724) hd_M_isKeyed ⟨Nat.le_of_ble_eq_true rfl, Nat.le_of_ble_eq_true rfl⟩, ht _ q726, ht _ qs35⟩ (z_preV hK (va_recv hK.1 hM.1 (ci := 10) (q0 := 0) rfl rfl)) rfl rfl hl.1 rfl (lv_room (Nat.le_of_ble_eq_true rfl)) d_M_rewrite_42 ⟨Nat.zero_le _, Nat.zero_le _⟩) (fun v19 hv18 => ?_)
  have hv18 : v19 = .int (if ¬ tW (tb t) = 12 then 1 else 0) := hv18
  rw [if_neg (fun h9 => h9 hw12)] at hv18
  subst hv18
  refine lv_if_eq (tgt := 59) hx hb d_M_rewrite_45 (by decide) (fun _ => ?_) (fun c21 => absurd c21 (by decide))
  refine lv_aload_n hx hb d_M_rewrite_59 rfl (lv_at hl 1 rfl) ?_
  refine lv_iload hx hb d_M_rewrite_60 (lv_at hl 6 rfl) ?_
  refine z_callR (va_runS (As := [.int (nI jk)]) (rest := [.ref (mm 0)]) ⟨hx, hb, hml, hown, hts⟩ (c_M_base l D dT _ (nI jk)) ⟨callB_of 1 hts (gI gd_up gd_c q650) rfl rfl rfl (ht _ q10) (ht _ q648) hd_M_base ⟨Nat.le_of_ble_eq_true rfl, Nat.le_of_ble_eq_true rfl⟩, ht _ q649⟩ (z_preS hK) rfl rfl hl.1 rfl (lv_room (Nat.le_of_ble_eq_true rfl)) d_M_rewrite_62 ⟨Nat.zero_le _, Nat.zero_le _⟩) (fun v23 hv22 => ?_)
  subst hv22
  rw [show (160 * nI jk : Int32) = nI (160 * jk) from pk_mul 160 jk]
  refine lv_iload hx hb d_M_rewrite_65 (lv_at hl 6 rfl) ?_
  refine z_callR (va_runS (As := [.int (nI jk)]) (rest := [.int (nI (160 * jk)), .ref (mm 0)]) ⟨hx, hb, hml, hown, hts⟩ (c_M_base l D dT _ (nI jk)) ⟨callB_of 1 hts (gI gd_up gd_c q650) rfl rfl rfl (ht _ q10) (ht _ q648) hd_M_base ⟨Nat.le_of_ble_eq_true rfl, Nat.le_of_ble_eq_true rfl⟩, ht _ q649⟩ (z_preS hK) rfl rfl hl.1 rfl (lv_room (Nat.le_of_ble_eq_true rfl)) d_M_rewrite_67 ⟨Nat.zero_le _, Nat.zero_le _⟩) (fun v25 hv24 => ?_)
  subst hv24
  rw [show (160 * nI jk : Int32) = nI (160 * jk) from pk_mul 160 jk]
  refine lv_aload_n hx hb d_M_rewrite_70 rfl (lv_at hl 1 rfl) ?_
  refine va_get (D := D) (ci := 10) (v := .ref (mm 6)) (C := "ValueTreesModel") (T := T_M) (N := 12) hx hb ht in_M hown hK.1 hM.1 0 rfl rfl 6 (by decide) (ht _ q545) (fun _ h9 => h9) rfl d_M_rewrite_71 ?_
  refine lv_iload hx hb d_M_rewrite_74 (lv_at hl 6 rfl) ?_
  refine z_iald hx hb hK (hM.1 6 _ rfl) jk rfl (by omega) (by decide) d_M_rewrite_76 ?_
  rw [esk]
  refine lv_iadd hx hb d_M_rewrite_77 ?_
  rw [show (((nI (160 * jk)) + (nI kx.length)) : Int32) = nI ((160 * jk) + kx.length) from nI_add (160 * jk) kx.length]
  refine z_callQ (va_runV (C := "ValueTreesModel") (As := [.int (nI (160 * jk)), .int (nI ((160 * jk) + kx.length))]) (rest := []) ⟨hx, hb, hml, hown, hts⟩ (c_M_putFrom l D dT _ mm wd lf rt tc ty F sz Wk (([] : List Nat) ++ [2 % 256] ++ size4 0 ++ px) dg dc sh hM hW hF (160 * jk) kx hfk (by omega) (by (try simp only [List.length_append, List.length_cons, List.length_nil, size4_len]); omega)) ⟨callB_of 2 hts (gI gd_up gd_c q707) rfl rfl rfl (ht _ q10) (ht _ q704) hd_M_putFrom ⟨Nat.le_of_ble_eq_true rfl, Nat.le_of_ble_eq_true rfl⟩, ht _ q706, ht _ qs33⟩ (z_preV hK (va_recv hK.1 hM.1 (ci := 10) (q0 := 0) rfl rfl)) rfl rfl hl.1 rfl (lv_room (Nat.le_of_ble_eq_true rfl)) d_M_rewrite_78 ⟨Nat.le_refl _, Nat.le_refl _⟩) hS (fun _ h9 => h9) (fun v27 H locs hv26 hz28 hf29 hS => ?_)
  obtain ⟨rfl, Wk, hW, hM⟩ := hv26
  refine W.eq (g2 := F0 m 81 ls []) rfl ?_
  refine lv_aload_n hx hb d_M_rewrite_81 rfl (lv_at hl 1 rfl) ?_
  refine lv_iload hx hb d_M_rewrite_82 (lv_at hl 0 rfl) ?_
  refine z_callR (va_runV (C := "ValueTreesModel") (As := [.int (nI t)]) (rest := []) ⟨hx, hb, hml, hown, hts⟩ (c_M_isKeyed l D dT _ mm wd lf rt tc ty F sz Wk ((([] : List Nat) ++ [2 % 256] ++ size4 0 ++ px ++ kx).length) dg dc sh hM tb hO hT t (by omega)) ⟨callB_of 1 hts (gI gd_up gd_c q727) rfl rfl rfl (ht _ q10) (ht _ q724) hd_M_isKeyed ⟨Nat.le_of_ble_eq_true rfl, Nat.le_of_ble_eq_true rfl⟩, ht _ q726, ht _ qs35⟩ (z_preV hK (va_recv hK.1 hM.1 (ci := 10) (q0 := 0) rfl rfl)) rfl rfl hl.1 rfl (lv_room (Nat.le_of_ble_eq_true rfl)) d_M_rewrite_84 ⟨Nat.zero_le _, Nat.zero_le _⟩) (fun v31 hv30 => ?_)
  have hv30 : v31 = .int (if ¬ tW (tb t) = 12 then 1 else 0) := hv30
  rw [if_neg (fun h9 => h9 hw12)] at hv30
  subst hv30
  refine lv_if_eq (tgt := 112) hx hb d_M_rewrite_87 (by decide) (fun _ => ?_) (fun c33 => absurd c33 (by decide))
  refine lv_aload_n hx hb d_M_rewrite_112 rfl (lv_at hl 1 rfl) ?_
  refine lv_iload hx hb d_M_rewrite_113 (lv_at hl 5 rfl) ?_
  refine lv_iload_n hx hb d_M_rewrite_115 rfl (lv_at hl 3 rfl) ?_
  refine z_callR (va_runS (As := [.int (nI jt)]) (rest := [.int (nI b), .ref (mm 0)]) ⟨hx, hb, hml, hown, hts⟩ (c_M_base l D dT _ (nI jt)) ⟨callB_of 1 hts (gI gd_up gd_c q650) rfl rfl rfl (ht _ q10) (ht _ q648) hd_M_base ⟨Nat.le_of_ble_eq_true rfl, Nat.le_of_ble_eq_true rfl⟩, ht _ q649⟩ (z_preS hK) rfl rfl hl.1 rfl (lv_room (Nat.le_of_ble_eq_true rfl)) d_M_rewrite_116 ⟨Nat.zero_le _, Nat.zero_le _⟩) (fun v35 hv34 => ?_)
  subst hv34
  rw [show (160 * nI jt : Int32) = nI (160 * jt) from pk_mul 160 jt]
  refine lv_aload_n hx hb d_M_rewrite_119 rfl (lv_at hl 1 rfl) ?_
  refine va_get (D := D) (ci := 10) (v := .ref (mm 6)) (C := "ValueTreesModel") (T := T_M) (N := 12) hx hb ht in_M hown hK.1 hM.1 0 rfl rfl 6 (by decide) (ht _ q545) (fun _ h9 => h9) rfl d_M_rewrite_120 ?_
  refine lv_iload_n hx hb d_M_rewrite_123 rfl (lv_at hl 3 rfl) ?_
  refine z_iald hx hb hK (hM.1 6 _ rfl) jt rfl (by omega) (by decide) d_M_rewrite_124 ?_
  rw [esz]
  refine lv_iadd hx hb d_M_rewrite_125 ?_
  rw [show (((nI (160 * jt)) + (nI L)) : Int32) = nI ((160 * jt) + L) from nI_add (160 * jt) L]
  rw [← hb9]
  refine z_callQ (va_runV (C := "ValueTreesModel") (As := [.int (nI b), .int (nI (b + sx.length))]) (rest := []) ⟨hx, hb, hml, hown, hts⟩ (c_M_putFrom l D dT _ mm wd lf rt tc ty F sz Wk (([] : List Nat) ++ [2 % 256] ++ size4 0 ++ px ++ kx) dg dc sh hM hW hF b sx hfs (by omega) (by (try simp only [List.length_append, List.length_cons, List.length_nil, size4_len]); omega)) ⟨callB_of 2 hts (gI gd_up gd_c q707) rfl rfl rfl (ht _ q10) (ht _ q704) hd_M_putFrom ⟨Nat.le_of_ble_eq_true rfl, Nat.le_of_ble_eq_true rfl⟩, ht _ q706, ht _ qs33⟩ (z_preV hK (va_recv hK.1 hM.1 (ci := 10) (q0 := 0) rfl rfl)) rfl rfl hl.1 rfl (lv_room (Nat.le_of_ble_eq_true rfl)) d_M_rewrite_126 ⟨Nat.le_refl _, Nat.le_refl _⟩) hS (fun _ h9 => h9) (fun v37 H locs hv36 hz38 hf39 hS => ?_)
  obtain ⟨rfl, Wk, hW, hM⟩ := hv36
  refine W.eq (g2 := F0 m 129 ls []) rfl ?_
  have e9 : ([] : List Nat) ++ [2 % 256] ++ size4 0 ++ px ++ kx ++ sx = [2 % 256] ++ (size4 0 ++ (px ++ ((kx : List Nat) ++ sx))) := by simp [List.append_assoc]
  rw [e9] at hW hM
  have hlr : ([2 % 256] ++ (size4 0 ++ (px ++ ((kx : List Nat) ++ sx)))).length = 5 + (px ++ ((kx : List Nat) ++ sx)).length := by simp [size4]; omega
  rw [hlr] at hM
  have hrl : (px ++ ((kx : List Nat) ++ sx)).length ≤ 700 := by simp only [List.length_append, List.length_cons, List.length_nil, size4_len]; omega
  refine lv_aload_n hx hb d_M_rewrite_129 rfl (lv_at hl 1 rfl) ?_
  refine va_get (D := D) (ci := 10) (v := .int (nI (5 + (px ++ ((kx : List Nat) ++ sx)).length))) (C := "ValueTreesModel") (T := T_M) (N := 12) hx hb ht in_M hown hK.1 hM.1 0 rfl rfl 8 (by decide) (ht _ q547) (fun _ h9 => h9) rfl d_M_rewrite_130 ?_
  refine lv_istore (lv' := [(8, .int (nI (5 + (px ++ ((kx : List Nat) ++ sx)).length))), (7, .int (nI t)), (0, .ref (mm 0)), (1, .int (nI j)), (2, .int (nI jt)), (3, .int (nI (160 * jt + 5 + px.length))), (4, .int (nI b)), (5, .int (nI jk)), (6, .int val)]) hx hb d_M_rewrite_133 hl (by decide) rfl (fun ls hl => ?_)
  refine lv_aload_n hx hb d_M_rewrite_135 rfl (lv_at hl 2 rfl) ?_
  refine lv_iconst (v := 1) hx hb d_M_rewrite_136 (by decide) ?_
  refine m_put_wz hx hb ht hown hK hM hS (ht _ q547) 1 rfl d_M_rewrite_137 (fun H locs hM hS => ?_)
  have hM : mAt D dT mm wd lf rt tc ty F sz Wk 1 dg dc sh H := hM
  have hW0 := hW
  have hW : wAt Wk ([2 % 256] : List Nat) := wAt_1 hW0
  have hM : mAt D dT mm wd lf rt tc ty F sz Wk (([2 % 256] : List Nat).length) dg dc sh H := hM
  refine lv_aload_n hx hb d_M_rewrite_140 rfl (lv_at hl 2 rfl) ?_
  refine lv_iload hx hb d_M_rewrite_141 (lv_at hl 0 rfl) ?_
  refine lv_iconst (v := 5) hx hb d_M_rewrite_143 (by decide) ?_
  refine lv_isub hx hb d_M_rewrite_144 ?_
  rw [show (((nI (5 + (px ++ ((kx : List Nat) ++ sx)).length)) - 5) : Int32) = nI ((5 + (px ++ ((kx : List Nat) ++ sx)).length) - 5) from pk_sub (a := (5 + (px ++ ((kx : List Nat) ++ sx)).length)) (b := 5) (by omega)]
  refine z_callQ (va_runV (C := "ValueTreesModel") (As := [.int (nI ((5 + (px ++ ((kx : List Nat) ++ sx)).length) - 5))]) (rest := []) ⟨hx, hb, hml, hown, hts⟩ (c_M_putSize l D dT _ mm wd lf rt tc ty F sz Wk ([2 % 256] : List Nat) dg dc sh hM hW ((5 + (px ++ ((kx : List Nat) ++ sx)).length) - 5) (by omega) (by (try simp only [List.length_append, List.length_cons, List.length_nil, size4_len]); omega)) ⟨callB_of 1 hts (gI gd_up gd_c q687) rfl rfl rfl (ht _ q10) (ht _ q684) hd_M_putSize ⟨Nat.le_of_ble_eq_true rfl, Nat.le_of_ble_eq_true rfl⟩, ht _ q686, ht _ qs32⟩ (z_preV hK (va_recv hK.1 hM.1 (ci := 10) (q0 := 0) rfl rfl)) rfl rfl hl.1 rfl (lv_room (Nat.le_of_ble_eq_true rfl)) d_M_rewrite_145 ⟨Nat.le_refl _, Nat.le_refl _⟩) hS (fun _ h9 => h9) (fun v41 H locs hv40 hz42 hf43 hS => ?_)
  obtain ⟨rfl, Wk, hW, hWk44, hM⟩ := hv40
  refine W.eq (g2 := F0 m 148 ls []) rfl ?_
  rw [show 5 + (px ++ ((kx : List Nat) ++ sx)).length - 5 = (px ++ ((kx : List Nat) ++ sx)).length by omega] at hW hM
  have hW : wAt Wk (2 :: (size4 (px ++ ((kx : List Nat) ++ sx)).length ++ (px ++ ((kx : List Nat) ++ sx)))) := wAt_hd hW0 hW hWk44
  refine lv_aload_n hx hb d_M_rewrite_148 rfl (lv_at hl 2 rfl) ?_
  refine lv_iload hx hb d_M_rewrite_149 (lv_at hl 0 rfl) ?_
  refine m_put_wz hx hb ht hown hK hM hS (ht _ q547) (5 + (px ++ ((kx : List Nat) ++ sx)).length) rfl d_M_rewrite_151 (fun H locs hM hS => ?_)
  have hM : mAt D dT mm wd lf rt tc ty F sz Wk (5 + (px ++ ((kx : List Nat) ++ sx)).length) dg dc sh H := hM
  have hlx : (2 :: (size4 (px ++ ((kx : List Nat) ++ sx)).length ++ (px ++ ((kx : List Nat) ++ sx)))).length = 5 + (px ++ ((kx : List Nat) ++ sx)).length := by simp [size4]; omega
  have hM : mAt D dT mm wd lf rt tc ty F sz Wk ((2 :: (size4 (px ++ ((kx : List Nat) ++ sx)).length ++ (px ++ ((kx : List Nat) ++ sx)))).length) dg dc sh H := by rw [hlx]; exact hM
  refine lv_aload_n hx hb d_M_rewrite_154 rfl (lv_at hl 2 rfl) ?_
  refine lv_iload_n hx hb d_M_rewrite_155 rfl (lv_at hl 3 rfl) ?_
  refine lv_iload hx hb d_M_rewrite_156 (lv_at hl 1 rfl) ?_
  refine z_callQ (va_runV (C := "ValueTreesModel") (As := [.int (nI j), .int (nI t)]) (rest := []) ⟨hx, hb, hml, hown, hts⟩ (c_M_keep l D dT _ mm wd lf rt tc ty F sz Wk (2 :: (size4 (px ++ ((kx : List Nat) ++ sx)).length ++ (px ++ ((kx : List Nat) ++ sx)))) dg dc sh hM hW j t hj (by (try simp only [List.length_append, List.length_cons, List.length_nil, size4_len]); omega)) ⟨callB_of 2 hts (gI gd_up gd_c q647) rfl rfl rfl (ht _ q10) (ht _ q644) hd_M_keep ⟨Nat.le_of_ble_eq_true rfl, Nat.le_of_ble_eq_true rfl⟩, ht _ q646, ht _ qs25⟩ (z_preV hK (va_recv hK.1 hM.1 (ci := 10) (q0 := 0) rfl rfl)) rfl rfl hl.1 rfl (lv_room (Nat.le_of_ble_eq_true rfl)) d_M_rewrite_158 ⟨Nat.le_refl _, Nat.le_refl _⟩) hS (fun _ h9 => h9) (fun v46 H locs hv45 hz47 hf48 hS => ?_)
  have hk9 : kO D dT mm wd lf rt tc ty F sz j t (2 :: (size4 (px ++ ((kx : List Nat) ++ sx)).length ++ (px ++ ((kx : List Nat) ++ sx)))) v46 H := ⟨_, _, _, _, _, hW.1, hv45⟩
  obtain ⟨r9, er9⟩ : ∃ r9 : Int32, v46 = some (.int r9) := by rcases hv45 with ⟨-, e9, -⟩ | ⟨-, e9, -⟩ <;> exact ⟨_, e9⟩
  subst er9
  refine W.eq (g2 := F0 m 161 ls [.int r9]) rfl ?_
  exact z_iretQ hx hb hr hlocks d_M_rewrite_161 hS (Nat.le_refl _) (Nat.le_refl _) hk9
set_option maxHeartbeats 4000000 in
set_option maxRecDepth 100000 in
theorem c_M_rewrite_map (l : Launch) (D : va_G) (dT : Nat → ClassId) (H : Heap) (mm : Nat → Nat) (wd lf rt : Nat → Int32) (tc : Nat) (ty : Nat → Int32) (F : Nat → Nat) (sz : Nat → Int32) (Wk : Nat → Nat) (wz : Nat) (dg : Nat → Nat) (dc : Nat) (sh : Nat → Nat) (hM : mAt D dT mm wd lf rt tc ty F sz Wk wz dg dc sh H) (hF : ∀ k, F k < 256) (tb : Nat → TR) (hO : tOK tb tc) (hT : mT tb tc wd lf rt) (hWk : ∀ k, Wk k < 256) (j jt t b L : Nat) (px sx : List Nat) (hj : j < 16) (hjt : jt < 16) (htl : t < tc) (hwd : tW (tb t) = 12 ∨ tW (tb t) = 15 ∨ tW (tb t) = 16) (ety : ty jt = nI t) (esz : sz jt = nI L) (hL160 : L ≤ 160) (hfp : fAt F (160 * jt + 5) px) (hpl : px.length ≤ 155) (hfs : fAt F b sx) (hsl : sx.length ≤ 155) (hb9 : b + sx.length = 160 * jt + L) (jk jv : Nat) (kx vx : List Nat) (hjk : jk < 16) (hjv : jv < 16) (hw12 : ¬ tW (tb t) = 12) (hfk : fAt F (160 * jk) kx) (hfv : fAt F (160 * jv) vx) (esk : sz jk = nI kx.length) (esv : sz jv = nI vx.length) (hkl : kx.length ≤ 160) (hvl : vx.length ≤ 160) : Met l y_M_rewrite w_M_rewrite ({ frames := 3, cells := 0, slots := 0, locals := 70 }) (z_P D dT [.ref (mm 0), .int (nI j), .int (nI jt), .int (nI (160 * jt + 5 + px.length)), .int (nI b), .int (nI jk), .int (nI jv)] H) (z_Q (mA mm) (fun v H1 => kO D dT mm wd lf rt tc ty F sz j t (2 :: (size4 (px ++ (([7, 4] ++ (kx ++ vx) : List Nat) ++ sx)).length ++ (px ++ (([7, 4] ++ (kx ++ vx) : List Nat) ++ sx)))) v H1)) 0 0 (mA mm) := by
  refine Met.ofW (cc := b_M_rewrite) (maxL := 9) (ret := (Option.some .int)) (by decide) rfl ?_
  intro p e s m args below meth c s₁ B hml hv
  obtain ⟨rfl, rfl, hK⟩ := hv
  have hx := B.exec
  have hb := B.bytes
  have hr := B.returns
  have hts := atoms_spec (ws := w_M_rewrite) B.pre
  have ht : ∀ w9 ∈ gt, w9.before [.ref (mm 0), .int (nI j), .int (nI jt), .int (nI (160 * jt + 5 + px.length)), .int (nI b), .int (nI jk), .int (nI jv)].toArray s = true := fun w9 h => hts w9 (List.mem_cons_of_mem _ h)
  have hown : s.vm.findClass "ValueTreesModel" = some m.cls := findClass_of_methodNamed B.named
  have hlocks := B.notSynchronized
  have hS : va_S (mA mm) s.heap s.heap [] := va_S.rf
  have hl := lv_entry ([.ref (mm 0), .int (nI j), .int (nI jt), .int (nI (160 * jt + 5 + px.length)), .int (nI b), .int (nI jk), .int (nI jv)]) (n := 9) (Nat.le_of_ble_eq_true rfl)
  rw [lg_entry_eq]
  generalize (lg_sl ([.ref (mm 0), .int (nI j), .int (nI jt), .int (nI (160 * jt + 5 + px.length)), .int (nI b), .int (nI jk), .int (nI jv)]) ++ List.replicate (9 - (lg_sl ([.ref (mm 0), .int (nI j), .int (nI jt), .int (nI (160 * jt + 5 + px.length)), .int (nI b), .int (nI jk), .int (nI jv)])).length) Slot.unset).toArray = ls at hl ⊢
  have hl : lv_has ls 9 [(0, .ref (mm 0)), (1, .int (nI j)), (2, .int (nI jt)), (3, .int (nI (160 * jt + 5 + px.length))), (4, .int (nI b)), (5, .int (nI jk)), (6, .int (nI jv))] := hl
  have htc := hO.1
  refine lv_aload_n hx hb d_M_rewrite_0 rfl (lv_at hl 0 rfl) ?_
  refine va_get (D := D) (ci := 10) (v := .ref (mm 4)) (C := "ValueTreesModel") (T := T_M) (N := 12) hx hb ht in_M hown hK.1 hM.1 0 rfl rfl 4 (by decide) (ht _ q543) (fun _ h9 => h9) rfl d_M_rewrite_1 ?_
  refine lv_iload_n hx hb d_M_rewrite_4 rfl (lv_at hl 2 rfl) ?_
  refine z_iald hx hb hK (hM.1 4 _ rfl) jt rfl (by omega) (by decide) d_M_rewrite_5 ?_
  rw [ety]
  refine lv_istore (lv' := [(7, .int (nI t)), (0, .ref (mm 0)), (1, .int (nI j)), (2, .int (nI jt)), (3, .int (nI (160 * jt + 5 + px.length))), (4, .int (nI b)), (5, .int (nI jk)), (6, .int (nI jv))]) hx hb d_M_rewrite_6 hl (by decide) rfl (fun ls hl => ?_)
  refine lv_aload_n hx hb d_M_rewrite_8 rfl (lv_at hl 1 rfl) ?_
  refine lv_iconst (v := 0) hx hb d_M_rewrite_9 (by decide) ?_
  refine m_put_wz hx hb ht hown hK hM hS (ht _ q547) 0 rfl d_M_rewrite_10 (fun H locs hM hS => ?_)
  have hM : mAt D dT mm wd lf rt tc ty F sz Wk 0 dg dc sh H := hM
  have hW : wAt Wk ([] : List Nat) := wAt_nil hWk
  have hM : mAt D dT mm wd lf rt tc ty F sz Wk (([] : List Nat).length) dg dc sh H := hM
  refine lv_aload_n hx hb d_M_rewrite_13 rfl (lv_at hl 1 rfl) ?_
  refine lv_iconst (v := 2) hx hb d_M_rewrite_14 (by decide) ?_
  refine z_callQ (va_runV (C := "ValueTreesModel") (As := [.int 2]) (rest := []) ⟨hx, hb, hml, hown, hts⟩ (c_M_lay l D dT _ mm wd lf rt tc ty F sz Wk ([] : List Nat) dg dc sh hM hW 2 (by (try simp only [List.length_append, List.length_cons, List.length_nil, size4_len]); omega)) ⟨callB_of 1 hts (gI gd_up gd_c q635) rfl rfl rfl (ht _ q10) (ht _ q632) hd_M_lay ⟨Nat.le_of_ble_eq_true rfl, Nat.le_of_ble_eq_true rfl⟩, ht _ q634, ht _ qs22⟩ (z_preV hK (va_recv hK.1 hM.1 (ci := 10) (q0 := 0) rfl rfl)) rfl rfl hl.1 rfl (lv_room (Nat.le_of_ble_eq_true rfl)) d_M_rewrite_15 ⟨Nat.le_refl _, Nat.le_refl _⟩) hS (fun _ h9 => h9) (fun v2 H locs hv1 hz3 hf4 hS => ?_)
  obtain ⟨rfl, Wk, hW, hWk5, hM⟩ := hv1
  refine W.eq (g2 := F0 m 18 ls []) rfl ?_
  refine lv_aload_n hx hb d_M_rewrite_18 rfl (lv_at hl 1 rfl) ?_
  refine lv_iconst (v := 0) hx hb d_M_rewrite_19 (by decide) ?_
  refine z_callQ (va_runV (C := "ValueTreesModel") (As := [.int 0]) (rest := []) ⟨hx, hb, hml, hown, hts⟩ (c_M_putSize l D dT _ mm wd lf rt tc ty F sz Wk (([] : List Nat) ++ [2 % 256]) dg dc sh hM hW 0 (by omega) (by (try simp only [List.length_append, List.length_cons, List.length_nil, size4_len]); omega)) ⟨callB_of 1 hts (gI gd_up gd_c q687) rfl rfl rfl (ht _ q10) (ht _ q684) hd_M_putSize ⟨Nat.le_of_ble_eq_true rfl, Nat.le_of_ble_eq_true rfl⟩, ht _ q686, ht _ qs32⟩ (z_preV hK (va_recv hK.1 hM.1 (ci := 10) (q0 := 0) rfl rfl)) rfl rfl hl.1 rfl (lv_room (Nat.le_of_ble_eq_true rfl)) d_M_rewrite_20 ⟨Nat.le_refl _, Nat.le_refl _⟩) hS (fun _ h9 => h9) (fun v7 H locs hv6 hz8 hf9 hS => ?_)
  obtain ⟨rfl, Wk, hW, hWk10, hM⟩ := hv6
  refine W.eq (g2 := F0 m 23 ls []) rfl ?_
  refine lv_aload_n hx hb d_M_rewrite_23 rfl (lv_at hl 1 rfl) ?_
  refine lv_iload_n hx hb d_M_rewrite_24 rfl (lv_at hl 3 rfl) ?_
  refine z_callR (va_runS (As := [.int (nI jt)]) (rest := [.ref (mm 0)]) ⟨hx, hb, hml, hown, hts⟩ (c_M_base l D dT _ (nI jt)) ⟨callB_of 1 hts (gI gd_up gd_c q650) rfl rfl rfl (ht _ q10) (ht _ q648) hd_M_base ⟨Nat.le_of_ble_eq_true rfl, Nat.le_of_ble_eq_true rfl⟩, ht _ q649⟩ (z_preS hK) rfl rfl hl.1 rfl (lv_room (Nat.le_of_ble_eq_true rfl)) d_M_rewrite_25 ⟨Nat.zero_le _, Nat.zero_le _⟩) (fun v12 hv11 => ?_)
  subst hv11
  rw [show (160 * nI jt : Int32) = nI (160 * jt) from pk_mul 160 jt]
  refine lv_iconst (v := 5) hx hb d_M_rewrite_28 (by decide) ?_
  refine lv_iadd hx hb d_M_rewrite_29 ?_
  rw [show (((nI (160 * jt)) + 5) : Int32) = nI ((160 * jt) + 5) from nI_add (160 * jt) 5]
  refine lv_iload_n hx hb d_M_rewrite_30 rfl (lv_at hl 4 rfl) ?_
  refine z_callQ (va_runV (C := "ValueTreesModel") (As := [.int (nI ((160 * jt) + 5)), .int (nI (160 * jt + 5 + px.length))]) (rest := []) ⟨hx, hb, hml, hown, hts⟩ (c_M_putFrom l D dT _ mm wd lf rt tc ty F sz Wk (([] : List Nat) ++ [2 % 256] ++ size4 0) dg dc sh hM hW hF ((160 * jt) + 5) px hfp (by omega) (by (try simp only [List.length_append, List.length_cons, List.length_nil, size4_len]); omega)) ⟨callB_of 2 hts (gI gd_up gd_c q707) rfl rfl rfl (ht _ q10) (ht _ q704) hd_M_putFrom ⟨Nat.le_of_ble_eq_true rfl, Nat.le_of_ble_eq_true rfl⟩, ht _ q706, ht _ qs33⟩ (z_preV hK (va_recv hK.1 hM.1 (ci := 10) (q0 := 0) rfl rfl)) rfl rfl hl.1 rfl (lv_room (Nat.le_of_ble_eq_true rfl)) d_M_rewrite_31 ⟨Nat.le_refl _, Nat.le_refl _⟩) hS (fun _ h9 => h9) (fun v14 H locs hv13 hz15 hf16 hS => ?_)
  obtain ⟨rfl, Wk, hW, hM⟩ := hv13
  refine W.eq (g2 := F0 m 34 ls []) rfl ?_
  refine lv_iload hx hb d_M_rewrite_34 (lv_at hl 6 rfl) ?_
  refine lv_if_lt (tgt := 112) hx hb d_M_rewrite_36 (by decide) (fun c17 => absurd c17 (nI_pos (by omega))) (fun c17 => ?_)
  refine lv_aload_n hx hb d_M_rewrite_39 rfl (lv_at hl 1 rfl) ?_
  refine lv_iload hx hb d_M_rewrite_40 (lv_at hl 0 rfl) ?_
  refine z_callR (va_runV (C := "ValueTreesModel") (As := [.int (nI t)]) (rest := []) ⟨hx, hb, hml, hown, hts⟩ (c_M_isKeyed l D dT _ mm wd lf rt tc ty F sz Wk ((([] : List Nat) ++ [2 % 256] ++ size4 0 ++ px).length) dg dc sh hM tb hO hT t (by omega)) ⟨callB_of 1 hts (gI gd_up gd_c q727) rfl rfl rfl (ht _ q10) (ht _ q724) hd_M_isKeyed ⟨Nat.le_of_ble_eq_true rfl, Nat.le_of_ble_eq_true rfl⟩, ht _ q726, ht _ qs35⟩ (z_preV hK (va_recv hK.1 hM.1 (ci := 10) (q0 := 0) rfl rfl)) rfl rfl hl.1 rfl (lv_room (Nat.le_of_ble_eq_true rfl)) d_M_rewrite_42 ⟨Nat.zero_le _, Nat.zero_le _⟩) (fun v19 hv18 => ?_)
  have hv18 : v19 = .int (if ¬ tW (tb t) = 12 then 1 else 0) := hv18
  rw [if_pos hw12] at hv18
  subst hv18
  refine lv_if_eq (tgt := 59) hx hb d_M_rewrite_45 (by decide) (fun c21 => absurd c21 (by decide)) (fun _ => ?_)
  refine lv_aload_n hx hb d_M_rewrite_48 rfl (lv_at hl 1 rfl) ?_
  refine lv_bipush (v := 7) hx hb d_M_rewrite_49 (by decide) ?_
  refine z_callQ (va_runV (C := "ValueTreesModel") (As := [.int 7]) (rest := []) ⟨hx, hb, hml, hown, hts⟩ (c_M_lay l D dT _ mm wd lf rt tc ty F sz Wk (([] : List Nat) ++ [2 % 256] ++ size4 0 ++ px) dg dc sh hM hW 7 (by (try simp only [List.length_append, List.length_cons, List.length_nil, size4_len]); omega)) ⟨callB_of 1 hts (gI gd_up gd_c q635) rfl rfl rfl (ht _ q10) (ht _ q632) hd_M_lay ⟨Nat.le_of_ble_eq_true rfl, Nat.le_of_ble_eq_true rfl⟩, ht _ q634, ht _ qs22⟩ (z_preV hK (va_recv hK.1 hM.1 (ci := 10) (q0 := 0) rfl rfl)) rfl rfl hl.1 rfl (lv_room (Nat.le_of_ble_eq_true rfl)) d_M_rewrite_51 ⟨Nat.le_refl _, Nat.le_refl _⟩) hS (fun _ h9 => h9) (fun v23 H locs hv22 hz24 hf25 hS => ?_)
  obtain ⟨rfl, Wk, hW, hWk26, hM⟩ := hv22
  refine W.eq (g2 := F0 m 54 ls []) rfl ?_
  refine lv_aload_n hx hb d_M_rewrite_54 rfl (lv_at hl 1 rfl) ?_
  refine lv_iconst (v := 4) hx hb d_M_rewrite_55 (by decide) ?_
  refine z_callQ (va_runV (C := "ValueTreesModel") (As := [.int 4]) (rest := []) ⟨hx, hb, hml, hown, hts⟩ (c_M_lay l D dT _ mm wd lf rt tc ty F sz Wk (([] : List Nat) ++ [2 % 256] ++ size4 0 ++ px ++ [7 % 256]) dg dc sh hM hW 4 (by (try simp only [List.length_append, List.length_cons, List.length_nil, size4_len]); omega)) ⟨callB_of 1 hts (gI gd_up gd_c q635) rfl rfl rfl (ht _ q10) (ht _ q632) hd_M_lay ⟨Nat.le_of_ble_eq_true rfl, Nat.le_of_ble_eq_true rfl⟩, ht _ q634, ht _ qs22⟩ (z_preV hK (va_recv hK.1 hM.1 (ci := 10) (q0 := 0) rfl rfl)) rfl rfl hl.1 rfl (lv_room (Nat.le_of_ble_eq_true rfl)) d_M_rewrite_56 ⟨Nat.le_refl _, Nat.le_refl _⟩) hS (fun _ h9 => h9) (fun v28 H locs hv27 hz29 hf30 hS => ?_)
  obtain ⟨rfl, Wk, hW, hWk31, hM⟩ := hv27
  refine W.eq (g2 := F0 m 59 ls []) rfl ?_
  refine lv_aload_n hx hb d_M_rewrite_59 rfl (lv_at hl 1 rfl) ?_
  refine lv_iload hx hb d_M_rewrite_60 (lv_at hl 6 rfl) ?_
  refine z_callR (va_runS (As := [.int (nI jk)]) (rest := [.ref (mm 0)]) ⟨hx, hb, hml, hown, hts⟩ (c_M_base l D dT _ (nI jk)) ⟨callB_of 1 hts (gI gd_up gd_c q650) rfl rfl rfl (ht _ q10) (ht _ q648) hd_M_base ⟨Nat.le_of_ble_eq_true rfl, Nat.le_of_ble_eq_true rfl⟩, ht _ q649⟩ (z_preS hK) rfl rfl hl.1 rfl (lv_room (Nat.le_of_ble_eq_true rfl)) d_M_rewrite_62 ⟨Nat.zero_le _, Nat.zero_le _⟩) (fun v33 hv32 => ?_)
  subst hv32
  rw [show (160 * nI jk : Int32) = nI (160 * jk) from pk_mul 160 jk]
  refine lv_iload hx hb d_M_rewrite_65 (lv_at hl 6 rfl) ?_
  refine z_callR (va_runS (As := [.int (nI jk)]) (rest := [.int (nI (160 * jk)), .ref (mm 0)]) ⟨hx, hb, hml, hown, hts⟩ (c_M_base l D dT _ (nI jk)) ⟨callB_of 1 hts (gI gd_up gd_c q650) rfl rfl rfl (ht _ q10) (ht _ q648) hd_M_base ⟨Nat.le_of_ble_eq_true rfl, Nat.le_of_ble_eq_true rfl⟩, ht _ q649⟩ (z_preS hK) rfl rfl hl.1 rfl (lv_room (Nat.le_of_ble_eq_true rfl)) d_M_rewrite_67 ⟨Nat.zero_le _, Nat.zero_le _⟩) (fun v35 hv34 => ?_)
  subst hv34
  rw [show (160 * nI jk : Int32) = nI (160 * jk) from pk_mul 160 jk]
  refine lv_aload_n hx hb d_M_rewrite_70 rfl (lv_at hl 1 rfl) ?_
  refine va_get (D := D) (ci := 10) (v := .ref (mm 6)) (C := "ValueTreesModel") (T := T_M) (N := 12) hx hb ht in_M hown hK.1 hM.1 0 rfl rfl 6 (by decide) (ht _ q545) (fun _ h9 => h9) rfl d_M_rewrite_71 ?_
  refine lv_iload hx hb d_M_rewrite_74 (lv_at hl 6 rfl) ?_
  refine z_iald hx hb hK (hM.1 6 _ rfl) jk rfl (by omega) (by decide) d_M_rewrite_76 ?_
  rw [esk]
  refine lv_iadd hx hb d_M_rewrite_77 ?_
  rw [show (((nI (160 * jk)) + (nI kx.length)) : Int32) = nI ((160 * jk) + kx.length) from nI_add (160 * jk) kx.length]
  refine z_callQ (va_runV (C := "ValueTreesModel") (As := [.int (nI (160 * jk)), .int (nI ((160 * jk) + kx.length))]) (rest := []) ⟨hx, hb, hml, hown, hts⟩ (c_M_putFrom l D dT _ mm wd lf rt tc ty F sz Wk (([] : List Nat) ++ [2 % 256] ++ size4 0 ++ px ++ [7 % 256] ++ [4 % 256]) dg dc sh hM hW hF (160 * jk) kx hfk (by omega) (by (try simp only [List.length_append, List.length_cons, List.length_nil, size4_len]); omega)) ⟨callB_of 2 hts (gI gd_up gd_c q707) rfl rfl rfl (ht _ q10) (ht _ q704) hd_M_putFrom ⟨Nat.le_of_ble_eq_true rfl, Nat.le_of_ble_eq_true rfl⟩, ht _ q706, ht _ qs33⟩ (z_preV hK (va_recv hK.1 hM.1 (ci := 10) (q0 := 0) rfl rfl)) rfl rfl hl.1 rfl (lv_room (Nat.le_of_ble_eq_true rfl)) d_M_rewrite_78 ⟨Nat.le_refl _, Nat.le_refl _⟩) hS (fun _ h9 => h9) (fun v37 H locs hv36 hz38 hf39 hS => ?_)
  obtain ⟨rfl, Wk, hW, hM⟩ := hv36
  refine W.eq (g2 := F0 m 81 ls []) rfl ?_
  refine lv_aload_n hx hb d_M_rewrite_81 rfl (lv_at hl 1 rfl) ?_
  refine lv_iload hx hb d_M_rewrite_82 (lv_at hl 0 rfl) ?_
  refine z_callR (va_runV (C := "ValueTreesModel") (As := [.int (nI t)]) (rest := []) ⟨hx, hb, hml, hown, hts⟩ (c_M_isKeyed l D dT _ mm wd lf rt tc ty F sz Wk ((([] : List Nat) ++ [2 % 256] ++ size4 0 ++ px ++ [7 % 256] ++ [4 % 256] ++ kx).length) dg dc sh hM tb hO hT t (by omega)) ⟨callB_of 1 hts (gI gd_up gd_c q727) rfl rfl rfl (ht _ q10) (ht _ q724) hd_M_isKeyed ⟨Nat.le_of_ble_eq_true rfl, Nat.le_of_ble_eq_true rfl⟩, ht _ q726, ht _ qs35⟩ (z_preV hK (va_recv hK.1 hM.1 (ci := 10) (q0 := 0) rfl rfl)) rfl rfl hl.1 rfl (lv_room (Nat.le_of_ble_eq_true rfl)) d_M_rewrite_84 ⟨Nat.zero_le _, Nat.zero_le _⟩) (fun v41 hv40 => ?_)
  have hv40 : v41 = .int (if ¬ tW (tb t) = 12 then 1 else 0) := hv40
  rw [if_pos hw12] at hv40
  subst hv40
  refine lv_if_eq (tgt := 112) hx hb d_M_rewrite_87 (by decide) (fun c43 => absurd c43 (by decide)) (fun _ => ?_)
  refine lv_aload_n hx hb d_M_rewrite_90 rfl (lv_at hl 1 rfl) ?_
  refine lv_iload hx hb d_M_rewrite_91 (lv_at hl 7 rfl) ?_
  refine z_callR (va_runS (As := [.int (nI jv)]) (rest := [.ref (mm 0)]) ⟨hx, hb, hml, hown, hts⟩ (c_M_base l D dT _ (nI jv)) ⟨callB_of 1 hts (gI gd_up gd_c q650) rfl rfl rfl (ht _ q10) (ht _ q648) hd_M_base ⟨Nat.le_of_ble_eq_true rfl, Nat.le_of_ble_eq_true rfl⟩, ht _ q649⟩ (z_preS hK) rfl rfl hl.1 rfl (lv_room (Nat.le_of_ble_eq_true rfl)) d_M_rewrite_93 ⟨Nat.zero_le _, Nat.zero_le _⟩) (fun v45 hv44 => ?_)
  subst hv44
  rw [show (160 * nI jv : Int32) = nI (160 * jv) from pk_mul 160 jv]
  refine lv_iload hx hb d_M_rewrite_96 (lv_at hl 7 rfl) ?_
  refine z_callR (va_runS (As := [.int (nI jv)]) (rest := [.int (nI (160 * jv)), .ref (mm 0)]) ⟨hx, hb, hml, hown, hts⟩ (c_M_base l D dT _ (nI jv)) ⟨callB_of 1 hts (gI gd_up gd_c q650) rfl rfl rfl (ht _ q10) (ht _ q648) hd_M_base ⟨Nat.le_of_ble_eq_true rfl, Nat.le_of_ble_eq_true rfl⟩, ht _ q649⟩ (z_preS hK) rfl rfl hl.1 rfl (lv_room (Nat.le_of_ble_eq_true rfl)) d_M_rewrite_98 ⟨Nat.zero_le _, Nat.zero_le _⟩) (fun v47 hv46 => ?_)
  subst hv46
  rw [show (160 * nI jv : Int32) = nI (160 * jv) from pk_mul 160 jv]
  refine lv_aload_n hx hb d_M_rewrite_101 rfl (lv_at hl 1 rfl) ?_
  refine va_get (D := D) (ci := 10) (v := .ref (mm 6)) (C := "ValueTreesModel") (T := T_M) (N := 12) hx hb ht in_M hown hK.1 hM.1 0 rfl rfl 6 (by decide) (ht _ q545) (fun _ h9 => h9) rfl d_M_rewrite_102 ?_
  refine lv_iload hx hb d_M_rewrite_105 (lv_at hl 7 rfl) ?_
  refine z_iald hx hb hK (hM.1 6 _ rfl) jv rfl (by omega) (by decide) d_M_rewrite_107 ?_
  rw [esv]
  refine lv_iadd hx hb d_M_rewrite_108 ?_
  rw [show (((nI (160 * jv)) + (nI vx.length)) : Int32) = nI ((160 * jv) + vx.length) from nI_add (160 * jv) vx.length]
  refine z_callQ (va_runV (C := "ValueTreesModel") (As := [.int (nI (160 * jv)), .int (nI ((160 * jv) + vx.length))]) (rest := []) ⟨hx, hb, hml, hown, hts⟩ (c_M_putFrom l D dT _ mm wd lf rt tc ty F sz Wk (([] : List Nat) ++ [2 % 256] ++ size4 0 ++ px ++ [7 % 256] ++ [4 % 256] ++ kx) dg dc sh hM hW hF (160 * jv) vx hfv (by omega) (by (try simp only [List.length_append, List.length_cons, List.length_nil, size4_len]); omega)) ⟨callB_of 2 hts (gI gd_up gd_c q707) rfl rfl rfl (ht _ q10) (ht _ q704) hd_M_putFrom ⟨Nat.le_of_ble_eq_true rfl, Nat.le_of_ble_eq_true rfl⟩, ht _ q706, ht _ qs33⟩ (z_preV hK (va_recv hK.1 hM.1 (ci := 10) (q0 := 0) rfl rfl)) rfl rfl hl.1 rfl (lv_room (Nat.le_of_ble_eq_true rfl)) d_M_rewrite_109 ⟨Nat.le_refl _, Nat.le_refl _⟩) hS (fun _ h9 => h9) (fun v49 H locs hv48 hz50 hf51 hS => ?_)
  obtain ⟨rfl, Wk, hW, hM⟩ := hv48
  refine W.eq (g2 := F0 m 112 ls []) rfl ?_
  refine lv_aload_n hx hb d_M_rewrite_112 rfl (lv_at hl 1 rfl) ?_
  refine lv_iload hx hb d_M_rewrite_113 (lv_at hl 5 rfl) ?_
  refine lv_iload_n hx hb d_M_rewrite_115 rfl (lv_at hl 3 rfl) ?_
  refine z_callR (va_runS (As := [.int (nI jt)]) (rest := [.int (nI b), .ref (mm 0)]) ⟨hx, hb, hml, hown, hts⟩ (c_M_base l D dT _ (nI jt)) ⟨callB_of 1 hts (gI gd_up gd_c q650) rfl rfl rfl (ht _ q10) (ht _ q648) hd_M_base ⟨Nat.le_of_ble_eq_true rfl, Nat.le_of_ble_eq_true rfl⟩, ht _ q649⟩ (z_preS hK) rfl rfl hl.1 rfl (lv_room (Nat.le_of_ble_eq_true rfl)) d_M_rewrite_116 ⟨Nat.zero_le _, Nat.zero_le _⟩) (fun v53 hv52 => ?_)
  subst hv52
  rw [show (160 * nI jt : Int32) = nI (160 * jt) from pk_mul 160 jt]
  refine lv_aload_n hx hb d_M_rewrite_119 rfl (lv_at hl 1 rfl) ?_
  refine va_get (D := D) (ci := 10) (v := .ref (mm 6)) (C := "ValueTreesModel") (T := T_M) (N := 12) hx hb ht in_M hown hK.1 hM.1 0 rfl rfl 6 (by decide) (ht _ q545) (fun _ h9 => h9) rfl d_M_rewrite_120 ?_
  refine lv_iload_n hx hb d_M_rewrite_123 rfl (lv_at hl 3 rfl) ?_
  refine z_iald hx hb hK (hM.1 6 _ rfl) jt rfl (by omega) (by decide) d_M_rewrite_124 ?_
  rw [esz]
  refine lv_iadd hx hb d_M_rewrite_125 ?_
  rw [show (((nI (160 * jt)) + (nI L)) : Int32) = nI ((160 * jt) + L) from nI_add (160 * jt) L]
  rw [← hb9]
  refine z_callQ (va_runV (C := "ValueTreesModel") (As := [.int (nI b), .int (nI (b + sx.length))]) (rest := []) ⟨hx, hb, hml, hown, hts⟩ (c_M_putFrom l D dT _ mm wd lf rt tc ty F sz Wk (([] : List Nat) ++ [2 % 256] ++ size4 0 ++ px ++ [7 % 256] ++ [4 % 256] ++ kx ++ vx) dg dc sh hM hW hF b sx hfs (by omega) (by (try simp only [List.length_append, List.length_cons, List.length_nil, size4_len]); omega)) ⟨callB_of 2 hts (gI gd_up gd_c q707) rfl rfl rfl (ht _ q10) (ht _ q704) hd_M_putFrom ⟨Nat.le_of_ble_eq_true rfl, Nat.le_of_ble_eq_true rfl⟩, ht _ q706, ht _ qs33⟩ (z_preV hK (va_recv hK.1 hM.1 (ci := 10) (q0 := 0) rfl rfl)) rfl rfl hl.1 rfl (lv_room (Nat.le_of_ble_eq_true rfl)) d_M_rewrite_126 ⟨Nat.le_refl _, Nat.le_refl _⟩) hS (fun _ h9 => h9) (fun v55 H locs hv54 hz56 hf57 hS => ?_)
  obtain ⟨rfl, Wk, hW, hM⟩ := hv54
  refine W.eq (g2 := F0 m 129 ls []) rfl ?_
  have e9 : ([] : List Nat) ++ [2 % 256] ++ size4 0 ++ px ++ [7 % 256] ++ [4 % 256] ++ kx ++ vx ++ sx = [2 % 256] ++ (size4 0 ++ (px ++ (([7, 4] ++ (kx ++ vx) : List Nat) ++ sx))) := by simp [List.append_assoc]
  rw [e9] at hW hM
  have hlr : ([2 % 256] ++ (size4 0 ++ (px ++ (([7, 4] ++ (kx ++ vx) : List Nat) ++ sx)))).length = 5 + (px ++ (([7, 4] ++ (kx ++ vx) : List Nat) ++ sx)).length := by simp [size4]; omega
  rw [hlr] at hM
  have hrl : (px ++ (([7, 4] ++ (kx ++ vx) : List Nat) ++ sx)).length ≤ 700 := by simp only [List.length_append, List.length_cons, List.length_nil, size4_len]; omega
  refine lv_aload_n hx hb d_M_rewrite_129 rfl (lv_at hl 1 rfl) ?_
  refine va_get (D := D) (ci := 10) (v := .int (nI (5 + (px ++ (([7, 4] ++ (kx ++ vx) : List Nat) ++ sx)).length))) (C := "ValueTreesModel") (T := T_M) (N := 12) hx hb ht in_M hown hK.1 hM.1 0 rfl rfl 8 (by decide) (ht _ q547) (fun _ h9 => h9) rfl d_M_rewrite_130 ?_
  refine lv_istore (lv' := [(8, .int (nI (5 + (px ++ (([7, 4] ++ (kx ++ vx) : List Nat) ++ sx)).length))), (7, .int (nI t)), (0, .ref (mm 0)), (1, .int (nI j)), (2, .int (nI jt)), (3, .int (nI (160 * jt + 5 + px.length))), (4, .int (nI b)), (5, .int (nI jk)), (6, .int (nI jv))]) hx hb d_M_rewrite_133 hl (by decide) rfl (fun ls hl => ?_)
  refine lv_aload_n hx hb d_M_rewrite_135 rfl (lv_at hl 2 rfl) ?_
  refine lv_iconst (v := 1) hx hb d_M_rewrite_136 (by decide) ?_
  refine m_put_wz hx hb ht hown hK hM hS (ht _ q547) 1 rfl d_M_rewrite_137 (fun H locs hM hS => ?_)
  have hM : mAt D dT mm wd lf rt tc ty F sz Wk 1 dg dc sh H := hM
  have hW0 := hW
  have hW : wAt Wk ([2 % 256] : List Nat) := wAt_1 hW0
  have hM : mAt D dT mm wd lf rt tc ty F sz Wk (([2 % 256] : List Nat).length) dg dc sh H := hM
  refine lv_aload_n hx hb d_M_rewrite_140 rfl (lv_at hl 2 rfl) ?_
  refine lv_iload hx hb d_M_rewrite_141 (lv_at hl 0 rfl) ?_
  refine lv_iconst (v := 5) hx hb d_M_rewrite_143 (by decide) ?_
  refine lv_isub hx hb d_M_rewrite_144 ?_
  rw [show (((nI (5 + (px ++ (([7, 4] ++ (kx ++ vx) : List Nat) ++ sx)).length)) - 5) : Int32) = nI ((5 + (px ++ (([7, 4] ++ (kx ++ vx) : List Nat) ++ sx)).length) - 5) from pk_sub (a := (5 + (px ++ (([7, 4] ++ (kx ++ vx) : List Nat) ++ sx)).length)) (b := 5) (by omega)]
  refine z_callQ (va_runV (C := "ValueTreesModel") (As := [.int (nI ((5 + (px ++ (([7, 4] ++ (kx ++ vx) : List Nat) ++ sx)).length) - 5))]) (rest := []) ⟨hx, hb, hml, hown, hts⟩ (c_M_putSize l D dT _ mm wd lf rt tc ty F sz Wk ([2 % 256] : List Nat) dg dc sh hM hW ((5 + (px ++ (([7, 4] ++ (kx ++ vx) : List Nat) ++ sx)).length) - 5) (by omega) (by (try simp only [List.length_append, List.length_cons, List.length_nil, size4_len]); omega)) ⟨callB_of 1 hts (gI gd_up gd_c q687) rfl rfl rfl (ht _ q10) (ht _ q684) hd_M_putSize ⟨Nat.le_of_ble_eq_true rfl, Nat.le_of_ble_eq_true rfl⟩, ht _ q686, ht _ qs32⟩ (z_preV hK (va_recv hK.1 hM.1 (ci := 10) (q0 := 0) rfl rfl)) rfl rfl hl.1 rfl (lv_room (Nat.le_of_ble_eq_true rfl)) d_M_rewrite_145 ⟨Nat.le_refl _, Nat.le_refl _⟩) hS (fun _ h9 => h9) (fun v59 H locs hv58 hz60 hf61 hS => ?_)
  obtain ⟨rfl, Wk, hW, hWk62, hM⟩ := hv58
  refine W.eq (g2 := F0 m 148 ls []) rfl ?_
  rw [show 5 + (px ++ (([7, 4] ++ (kx ++ vx) : List Nat) ++ sx)).length - 5 = (px ++ (([7, 4] ++ (kx ++ vx) : List Nat) ++ sx)).length by omega] at hW hM
  have hW : wAt Wk (2 :: (size4 (px ++ (([7, 4] ++ (kx ++ vx) : List Nat) ++ sx)).length ++ (px ++ (([7, 4] ++ (kx ++ vx) : List Nat) ++ sx)))) := wAt_hd hW0 hW hWk62
  refine lv_aload_n hx hb d_M_rewrite_148 rfl (lv_at hl 2 rfl) ?_
  refine lv_iload hx hb d_M_rewrite_149 (lv_at hl 0 rfl) ?_
  refine m_put_wz hx hb ht hown hK hM hS (ht _ q547) (5 + (px ++ (([7, 4] ++ (kx ++ vx) : List Nat) ++ sx)).length) rfl d_M_rewrite_151 (fun H locs hM hS => ?_)
  have hM : mAt D dT mm wd lf rt tc ty F sz Wk (5 + (px ++ (([7, 4] ++ (kx ++ vx) : List Nat) ++ sx)).length) dg dc sh H := hM
  have hlx : (2 :: (size4 (px ++ (([7, 4] ++ (kx ++ vx) : List Nat) ++ sx)).length ++ (px ++ (([7, 4] ++ (kx ++ vx) : List Nat) ++ sx)))).length = 5 + (px ++ (([7, 4] ++ (kx ++ vx) : List Nat) ++ sx)).length := by simp [size4]; omega
  have hM : mAt D dT mm wd lf rt tc ty F sz Wk ((2 :: (size4 (px ++ (([7, 4] ++ (kx ++ vx) : List Nat) ++ sx)).length ++ (px ++ (([7, 4] ++ (kx ++ vx) : List Nat) ++ sx)))).length) dg dc sh H := by rw [hlx]; exact hM
  refine lv_aload_n hx hb d_M_rewrite_154 rfl (lv_at hl 2 rfl) ?_
  refine lv_iload_n hx hb d_M_rewrite_155 rfl (lv_at hl 3 rfl) ?_
  refine lv_iload hx hb d_M_rewrite_156 (lv_at hl 1 rfl) ?_
  refine z_callQ (va_runV (C := "ValueTreesModel") (As := [.int (nI j), .int (nI t)]) (rest := []) ⟨hx, hb, hml, hown, hts⟩ (c_M_keep l D dT _ mm wd lf rt tc ty F sz Wk (2 :: (size4 (px ++ (([7, 4] ++ (kx ++ vx) : List Nat) ++ sx)).length ++ (px ++ (([7, 4] ++ (kx ++ vx) : List Nat) ++ sx)))) dg dc sh hM hW j t hj (by (try simp only [List.length_append, List.length_cons, List.length_nil, size4_len]); omega)) ⟨callB_of 2 hts (gI gd_up gd_c q647) rfl rfl rfl (ht _ q10) (ht _ q644) hd_M_keep ⟨Nat.le_of_ble_eq_true rfl, Nat.le_of_ble_eq_true rfl⟩, ht _ q646, ht _ qs25⟩ (z_preV hK (va_recv hK.1 hM.1 (ci := 10) (q0 := 0) rfl rfl)) rfl rfl hl.1 rfl (lv_room (Nat.le_of_ble_eq_true rfl)) d_M_rewrite_158 ⟨Nat.le_refl _, Nat.le_refl _⟩) hS (fun _ h9 => h9) (fun v64 H locs hv63 hz65 hf66 hS => ?_)
  have hk9 : kO D dT mm wd lf rt tc ty F sz j t (2 :: (size4 (px ++ (([7, 4] ++ (kx ++ vx) : List Nat) ++ sx)).length ++ (px ++ (([7, 4] ++ (kx ++ vx) : List Nat) ++ sx)))) v64 H := ⟨_, _, _, _, _, hW.1, hv63⟩
  obtain ⟨r9, er9⟩ : ∃ r9 : Int32, v64 = some (.int r9) := by rcases hv63 with ⟨-, e9, -⟩ | ⟨-, e9, -⟩ <;> exact ⟨_, e9⟩
  subst er9
  refine W.eq (g2 := F0 m 161 ls [.int r9]) rfl ?_
  exact z_iretQ hx hb hr hlocks d_M_rewrite_161 hS (Nat.le_refl _) (Nat.le_refl _) hk9
set_option maxHeartbeats 4000000 in
set_option maxRecDepth 100000 in
theorem c_M_rewrite_rem (l : Launch) (D : va_G) (dT : Nat → ClassId) (H : Heap) (mm : Nat → Nat) (wd lf rt : Nat → Int32) (tc : Nat) (ty : Nat → Int32) (F : Nat → Nat) (sz : Nat → Int32) (Wk : Nat → Nat) (wz : Nat) (dg : Nat → Nat) (dc : Nat) (sh : Nat → Nat) (hM : mAt D dT mm wd lf rt tc ty F sz Wk wz dg dc sh H) (hF : ∀ k, F k < 256) (tb : Nat → TR) (hO : tOK tb tc) (hT : mT tb tc wd lf rt) (hWk : ∀ k, Wk k < 256) (j jt t b L : Nat) (px sx : List Nat) (hj : j < 16) (hjt : jt < 16) (htl : t < tc) (hwd : tW (tb t) = 12 ∨ tW (tb t) = 15 ∨ tW (tb t) = 16) (ety : ty jt = nI t) (esz : sz jt = nI L) (hL160 : L ≤ 160) (hfp : fAt F (160 * jt + 5) px) (hpl : px.length ≤ 155) (hfs : fAt F b sx) (hsl : sx.length ≤ 155) (hb9 : b + sx.length = 160 * jt + L) : Met l y_M_rewrite w_M_rewrite ({ frames := 3, cells := 0, slots := 0, locals := 70 }) (z_P D dT [.ref (mm 0), .int (nI j), .int (nI jt), .int (nI (160 * jt + 5 + px.length)), .int (nI b), .int (-1), .int (-1)] H) (z_Q (mA mm) (fun v H1 => kO D dT mm wd lf rt tc ty F sz j t (2 :: (size4 (px ++ (([] : List Nat) ++ sx)).length ++ (px ++ (([] : List Nat) ++ sx)))) v H1)) 0 0 (mA mm) := by
  refine Met.ofW (cc := b_M_rewrite) (maxL := 9) (ret := (Option.some .int)) (by decide) rfl ?_
  intro p e s m args below meth c s₁ B hml hv
  obtain ⟨rfl, rfl, hK⟩ := hv
  have hx := B.exec
  have hb := B.bytes
  have hr := B.returns
  have hts := atoms_spec (ws := w_M_rewrite) B.pre
  have ht : ∀ w9 ∈ gt, w9.before [.ref (mm 0), .int (nI j), .int (nI jt), .int (nI (160 * jt + 5 + px.length)), .int (nI b), .int (-1), .int (-1)].toArray s = true := fun w9 h => hts w9 (List.mem_cons_of_mem _ h)
  have hown : s.vm.findClass "ValueTreesModel" = some m.cls := findClass_of_methodNamed B.named
  have hlocks := B.notSynchronized
  have hS : va_S (mA mm) s.heap s.heap [] := va_S.rf
  have hl := lv_entry ([.ref (mm 0), .int (nI j), .int (nI jt), .int (nI (160 * jt + 5 + px.length)), .int (nI b), .int (-1), .int (-1)]) (n := 9) (Nat.le_of_ble_eq_true rfl)
  rw [lg_entry_eq]
  generalize (lg_sl ([.ref (mm 0), .int (nI j), .int (nI jt), .int (nI (160 * jt + 5 + px.length)), .int (nI b), .int (-1), .int (-1)]) ++ List.replicate (9 - (lg_sl ([.ref (mm 0), .int (nI j), .int (nI jt), .int (nI (160 * jt + 5 + px.length)), .int (nI b), .int (-1), .int (-1)])).length) Slot.unset).toArray = ls at hl ⊢
  have hl : lv_has ls 9 [(0, .ref (mm 0)), (1, .int (nI j)), (2, .int (nI jt)), (3, .int (nI (160 * jt + 5 + px.length))), (4, .int (nI b)), (5, .int (-1)), (6, .int (-1))] := hl
  have htc := hO.1
  refine lv_aload_n hx hb d_M_rewrite_0 rfl (lv_at hl 0 rfl) ?_
  refine va_get (D := D) (ci := 10) (v := .ref (mm 4)) (C := "ValueTreesModel") (T := T_M) (N := 12) hx hb ht in_M hown hK.1 hM.1 0 rfl rfl 4 (by decide) (ht _ q543) (fun _ h9 => h9) rfl d_M_rewrite_1 ?_
  refine lv_iload_n hx hb d_M_rewrite_4 rfl (lv_at hl 2 rfl) ?_
  refine z_iald hx hb hK (hM.1 4 _ rfl) jt rfl (by omega) (by decide) d_M_rewrite_5 ?_
  rw [ety]
  refine lv_istore (lv' := [(7, .int (nI t)), (0, .ref (mm 0)), (1, .int (nI j)), (2, .int (nI jt)), (3, .int (nI (160 * jt + 5 + px.length))), (4, .int (nI b)), (5, .int (-1)), (6, .int (-1))]) hx hb d_M_rewrite_6 hl (by decide) rfl (fun ls hl => ?_)
  refine lv_aload_n hx hb d_M_rewrite_8 rfl (lv_at hl 1 rfl) ?_
  refine lv_iconst (v := 0) hx hb d_M_rewrite_9 (by decide) ?_
  refine m_put_wz hx hb ht hown hK hM hS (ht _ q547) 0 rfl d_M_rewrite_10 (fun H locs hM hS => ?_)
  have hM : mAt D dT mm wd lf rt tc ty F sz Wk 0 dg dc sh H := hM
  have hW : wAt Wk ([] : List Nat) := wAt_nil hWk
  have hM : mAt D dT mm wd lf rt tc ty F sz Wk (([] : List Nat).length) dg dc sh H := hM
  refine lv_aload_n hx hb d_M_rewrite_13 rfl (lv_at hl 1 rfl) ?_
  refine lv_iconst (v := 2) hx hb d_M_rewrite_14 (by decide) ?_
  refine z_callQ (va_runV (C := "ValueTreesModel") (As := [.int 2]) (rest := []) ⟨hx, hb, hml, hown, hts⟩ (c_M_lay l D dT _ mm wd lf rt tc ty F sz Wk ([] : List Nat) dg dc sh hM hW 2 (by (try simp only [List.length_append, List.length_cons, List.length_nil, size4_len]); omega)) ⟨callB_of 1 hts (gI gd_up gd_c q635) rfl rfl rfl (ht _ q10) (ht _ q632) hd_M_lay ⟨Nat.le_of_ble_eq_true rfl, Nat.le_of_ble_eq_true rfl⟩, ht _ q634, ht _ qs22⟩ (z_preV hK (va_recv hK.1 hM.1 (ci := 10) (q0 := 0) rfl rfl)) rfl rfl hl.1 rfl (lv_room (Nat.le_of_ble_eq_true rfl)) d_M_rewrite_15 ⟨Nat.le_refl _, Nat.le_refl _⟩) hS (fun _ h9 => h9) (fun v2 H locs hv1 hz3 hf4 hS => ?_)
  obtain ⟨rfl, Wk, hW, hWk5, hM⟩ := hv1
  refine W.eq (g2 := F0 m 18 ls []) rfl ?_
  refine lv_aload_n hx hb d_M_rewrite_18 rfl (lv_at hl 1 rfl) ?_
  refine lv_iconst (v := 0) hx hb d_M_rewrite_19 (by decide) ?_
  refine z_callQ (va_runV (C := "ValueTreesModel") (As := [.int 0]) (rest := []) ⟨hx, hb, hml, hown, hts⟩ (c_M_putSize l D dT _ mm wd lf rt tc ty F sz Wk (([] : List Nat) ++ [2 % 256]) dg dc sh hM hW 0 (by omega) (by (try simp only [List.length_append, List.length_cons, List.length_nil, size4_len]); omega)) ⟨callB_of 1 hts (gI gd_up gd_c q687) rfl rfl rfl (ht _ q10) (ht _ q684) hd_M_putSize ⟨Nat.le_of_ble_eq_true rfl, Nat.le_of_ble_eq_true rfl⟩, ht _ q686, ht _ qs32⟩ (z_preV hK (va_recv hK.1 hM.1 (ci := 10) (q0 := 0) rfl rfl)) rfl rfl hl.1 rfl (lv_room (Nat.le_of_ble_eq_true rfl)) d_M_rewrite_20 ⟨Nat.le_refl _, Nat.le_refl _⟩) hS (fun _ h9 => h9) (fun v7 H locs hv6 hz8 hf9 hS => ?_)
  obtain ⟨rfl, Wk, hW, hWk10, hM⟩ := hv6
  refine W.eq (g2 := F0 m 23 ls []) rfl ?_
  refine lv_aload_n hx hb d_M_rewrite_23 rfl (lv_at hl 1 rfl) ?_
  refine lv_iload_n hx hb d_M_rewrite_24 rfl (lv_at hl 3 rfl) ?_
  refine z_callR (va_runS (As := [.int (nI jt)]) (rest := [.ref (mm 0)]) ⟨hx, hb, hml, hown, hts⟩ (c_M_base l D dT _ (nI jt)) ⟨callB_of 1 hts (gI gd_up gd_c q650) rfl rfl rfl (ht _ q10) (ht _ q648) hd_M_base ⟨Nat.le_of_ble_eq_true rfl, Nat.le_of_ble_eq_true rfl⟩, ht _ q649⟩ (z_preS hK) rfl rfl hl.1 rfl (lv_room (Nat.le_of_ble_eq_true rfl)) d_M_rewrite_25 ⟨Nat.zero_le _, Nat.zero_le _⟩) (fun v12 hv11 => ?_)
  subst hv11
  rw [show (160 * nI jt : Int32) = nI (160 * jt) from pk_mul 160 jt]
  refine lv_iconst (v := 5) hx hb d_M_rewrite_28 (by decide) ?_
  refine lv_iadd hx hb d_M_rewrite_29 ?_
  rw [show (((nI (160 * jt)) + 5) : Int32) = nI ((160 * jt) + 5) from nI_add (160 * jt) 5]
  refine lv_iload_n hx hb d_M_rewrite_30 rfl (lv_at hl 4 rfl) ?_
  refine z_callQ (va_runV (C := "ValueTreesModel") (As := [.int (nI ((160 * jt) + 5)), .int (nI (160 * jt + 5 + px.length))]) (rest := []) ⟨hx, hb, hml, hown, hts⟩ (c_M_putFrom l D dT _ mm wd lf rt tc ty F sz Wk (([] : List Nat) ++ [2 % 256] ++ size4 0) dg dc sh hM hW hF ((160 * jt) + 5) px hfp (by omega) (by (try simp only [List.length_append, List.length_cons, List.length_nil, size4_len]); omega)) ⟨callB_of 2 hts (gI gd_up gd_c q707) rfl rfl rfl (ht _ q10) (ht _ q704) hd_M_putFrom ⟨Nat.le_of_ble_eq_true rfl, Nat.le_of_ble_eq_true rfl⟩, ht _ q706, ht _ qs33⟩ (z_preV hK (va_recv hK.1 hM.1 (ci := 10) (q0 := 0) rfl rfl)) rfl rfl hl.1 rfl (lv_room (Nat.le_of_ble_eq_true rfl)) d_M_rewrite_31 ⟨Nat.le_refl _, Nat.le_refl _⟩) hS (fun _ h9 => h9) (fun v14 H locs hv13 hz15 hf16 hS => ?_)
  obtain ⟨rfl, Wk, hW, hM⟩ := hv13
  refine W.eq (g2 := F0 m 34 ls []) rfl ?_
  refine lv_iload hx hb d_M_rewrite_34 (lv_at hl 6 rfl) ?_
  refine lv_if_lt (tgt := 112) hx hb d_M_rewrite_36 (by decide) (fun _ => ?_) (fun c17 => absurd c17 (by decide))
  refine lv_aload_n hx hb d_M_rewrite_112 rfl (lv_at hl 1 rfl) ?_
  refine lv_iload hx hb d_M_rewrite_113 (lv_at hl 5 rfl) ?_
  refine lv_iload_n hx hb d_M_rewrite_115 rfl (lv_at hl 3 rfl) ?_
  refine z_callR (va_runS (As := [.int (nI jt)]) (rest := [.int (nI b), .ref (mm 0)]) ⟨hx, hb, hml, hown, hts⟩ (c_M_base l D dT _ (nI jt)) ⟨callB_of 1 hts (gI gd_up gd_c q650) rfl rfl rfl (ht _ q10) (ht _ q648) hd_M_base ⟨Nat.le_of_ble_eq_true rfl, Nat.le_of_ble_eq_true rfl⟩, ht _ q649⟩ (z_preS hK) rfl rfl hl.1 rfl (lv_room (Nat.le_of_ble_eq_true rfl)) d_M_rewrite_116 ⟨Nat.zero_le _, Nat.zero_le _⟩) (fun v19 hv18 => ?_)
  subst hv18
  rw [show (160 * nI jt : Int32) = nI (160 * jt) from pk_mul 160 jt]
  refine lv_aload_n hx hb d_M_rewrite_119 rfl (lv_at hl 1 rfl) ?_
  refine va_get (D := D) (ci := 10) (v := .ref (mm 6)) (C := "ValueTreesModel") (T := T_M) (N := 12) hx hb ht in_M hown hK.1 hM.1 0 rfl rfl 6 (by decide) (ht _ q545) (fun _ h9 => h9) rfl d_M_rewrite_120 ?_
  refine lv_iload_n hx hb d_M_rewrite_123 rfl (lv_at hl 3 rfl) ?_
  refine z_iald hx hb hK (hM.1 6 _ rfl) jt rfl (by omega) (by decide) d_M_rewrite_124 ?_
  rw [esz]
  refine lv_iadd hx hb d_M_rewrite_125 ?_
  rw [show (((nI (160 * jt)) + (nI L)) : Int32) = nI ((160 * jt) + L) from nI_add (160 * jt) L]
  rw [← hb9]
  refine z_callQ (va_runV (C := "ValueTreesModel") (As := [.int (nI b), .int (nI (b + sx.length))]) (rest := []) ⟨hx, hb, hml, hown, hts⟩ (c_M_putFrom l D dT _ mm wd lf rt tc ty F sz Wk (([] : List Nat) ++ [2 % 256] ++ size4 0 ++ px) dg dc sh hM hW hF b sx hfs (by omega) (by (try simp only [List.length_append, List.length_cons, List.length_nil, size4_len]); omega)) ⟨callB_of 2 hts (gI gd_up gd_c q707) rfl rfl rfl (ht _ q10) (ht _ q704) hd_M_putFrom ⟨Nat.le_of_ble_eq_true rfl, Nat.le_of_ble_eq_true rfl⟩, ht _ q706, ht _ qs33⟩ (z_preV hK (va_recv hK.1 hM.1 (ci := 10) (q0 := 0) rfl rfl)) rfl rfl hl.1 rfl (lv_room (Nat.le_of_ble_eq_true rfl)) d_M_rewrite_126 ⟨Nat.le_refl _, Nat.le_refl _⟩) hS (fun _ h9 => h9) (fun v21 H locs hv20 hz22 hf23 hS => ?_)
  obtain ⟨rfl, Wk, hW, hM⟩ := hv20
  refine W.eq (g2 := F0 m 129 ls []) rfl ?_
  have e9 : ([] : List Nat) ++ [2 % 256] ++ size4 0 ++ px ++ sx = [2 % 256] ++ (size4 0 ++ (px ++ (([] : List Nat) ++ sx))) := by simp [List.append_assoc]
  rw [e9] at hW hM
  have hlr : ([2 % 256] ++ (size4 0 ++ (px ++ (([] : List Nat) ++ sx)))).length = 5 + (px ++ (([] : List Nat) ++ sx)).length := by simp [size4]; omega
  rw [hlr] at hM
  have hrl : (px ++ (([] : List Nat) ++ sx)).length ≤ 700 := by simp only [List.length_append, List.length_cons, List.length_nil, size4_len]; omega
  refine lv_aload_n hx hb d_M_rewrite_129 rfl (lv_at hl 1 rfl) ?_
  refine va_get (D := D) (ci := 10) (v := .int (nI (5 + (px ++ (([] : List Nat) ++ sx)).length))) (C := "ValueTreesModel") (T := T_M) (N := 12) hx hb ht in_M hown hK.1 hM.1 0 rfl rfl 8 (by decide) (ht _ q547) (fun _ h9 => h9) rfl d_M_rewrite_130 ?_
  refine lv_istore (lv' := [(8, .int (nI (5 + (px ++ (([] : List Nat) ++ sx)).length))), (7, .int (nI t)), (0, .ref (mm 0)), (1, .int (nI j)), (2, .int (nI jt)), (3, .int (nI (160 * jt + 5 + px.length))), (4, .int (nI b)), (5, .int (-1)), (6, .int (-1))]) hx hb d_M_rewrite_133 hl (by decide) rfl (fun ls hl => ?_)
  refine lv_aload_n hx hb d_M_rewrite_135 rfl (lv_at hl 2 rfl) ?_
  refine lv_iconst (v := 1) hx hb d_M_rewrite_136 (by decide) ?_
  refine m_put_wz hx hb ht hown hK hM hS (ht _ q547) 1 rfl d_M_rewrite_137 (fun H locs hM hS => ?_)
  have hM : mAt D dT mm wd lf rt tc ty F sz Wk 1 dg dc sh H := hM
  have hW0 := hW
  have hW : wAt Wk ([2 % 256] : List Nat) := wAt_1 hW0
  have hM : mAt D dT mm wd lf rt tc ty F sz Wk (([2 % 256] : List Nat).length) dg dc sh H := hM
  refine lv_aload_n hx hb d_M_rewrite_140 rfl (lv_at hl 2 rfl) ?_
  refine lv_iload hx hb d_M_rewrite_141 (lv_at hl 0 rfl) ?_
  refine lv_iconst (v := 5) hx hb d_M_rewrite_143 (by decide) ?_
  refine lv_isub hx hb d_M_rewrite_144 ?_
  rw [show (((nI (5 + (px ++ (([] : List Nat) ++ sx)).length)) - 5) : Int32) = nI ((5 + (px ++ (([] : List Nat) ++ sx)).length) - 5) from pk_sub (a := (5 + (px ++ (([] : List Nat) ++ sx)).length)) (b := 5) (by omega)]
  refine z_callQ (va_runV (C := "ValueTreesModel") (As := [.int (nI ((5 + (px ++ (([] : List Nat) ++ sx)).length) - 5))]) (rest := []) ⟨hx, hb, hml, hown, hts⟩ (c_M_putSize l D dT _ mm wd lf rt tc ty F sz Wk ([2 % 256] : List Nat) dg dc sh hM hW ((5 + (px ++ (([] : List Nat) ++ sx)).length) - 5) (by omega) (by (try simp only [List.length_append, List.length_cons, List.length_nil, size4_len]); omega)) ⟨callB_of 1 hts (gI gd_up gd_c q687) rfl rfl rfl (ht _ q10) (ht _ q684) hd_M_putSize ⟨Nat.le_of_ble_eq_true rfl, Nat.le_of_ble_eq_true rfl⟩, ht _ q686, ht _ qs32⟩ (z_preV hK (va_recv hK.1 hM.1 (ci := 10) (q0 := 0) rfl rfl)) rfl rfl hl.1 rfl (lv_room (Nat.le_of_ble_eq_true rfl)) d_M_rewrite_145 ⟨Nat.le_refl _, Nat.le_refl _⟩) hS (fun _ h9 => h9) (fun v25 H locs hv24 hz26 hf27 hS => ?_)
  obtain ⟨rfl, Wk, hW, hWk28, hM⟩ := hv24
  refine W.eq (g2 := F0 m 148 ls []) rfl ?_
  rw [show 5 + (px ++ (([] : List Nat) ++ sx)).length - 5 = (px ++ (([] : List Nat) ++ sx)).length by omega] at hW hM
  have hW : wAt Wk (2 :: (size4 (px ++ (([] : List Nat) ++ sx)).length ++ (px ++ (([] : List Nat) ++ sx)))) := wAt_hd hW0 hW hWk28
  refine lv_aload_n hx hb d_M_rewrite_148 rfl (lv_at hl 2 rfl) ?_
  refine lv_iload hx hb d_M_rewrite_149 (lv_at hl 0 rfl) ?_
  refine m_put_wz hx hb ht hown hK hM hS (ht _ q547) (5 + (px ++ (([] : List Nat) ++ sx)).length) rfl d_M_rewrite_151 (fun H locs hM hS => ?_)
  have hM : mAt D dT mm wd lf rt tc ty F sz Wk (5 + (px ++ (([] : List Nat) ++ sx)).length) dg dc sh H := hM
  have hlx : (2 :: (size4 (px ++ (([] : List Nat) ++ sx)).length ++ (px ++ (([] : List Nat) ++ sx)))).length = 5 + (px ++ (([] : List Nat) ++ sx)).length := by simp [size4]; omega
  have hM : mAt D dT mm wd lf rt tc ty F sz Wk ((2 :: (size4 (px ++ (([] : List Nat) ++ sx)).length ++ (px ++ (([] : List Nat) ++ sx)))).length) dg dc sh H := by rw [hlx]; exact hM
  refine lv_aload_n hx hb d_M_rewrite_154 rfl (lv_at hl 2 rfl) ?_
  refine lv_iload_n hx hb d_M_rewrite_155 rfl (lv_at hl 3 rfl) ?_
  refine lv_iload hx hb d_M_rewrite_156 (lv_at hl 1 rfl) ?_
  refine z_callQ (va_runV (C := "ValueTreesModel") (As := [.int (nI j), .int (nI t)]) (rest := []) ⟨hx, hb, hml, hown, hts⟩ (c_M_keep l D dT _ mm wd lf rt tc ty F sz Wk (2 :: (size4 (px ++ (([] : List Nat) ++ sx)).length ++ (px ++ (([] : List Nat) ++ sx)))) dg dc sh hM hW j t hj (by (try simp only [List.length_append, List.length_cons, List.length_nil, size4_len]); omega)) ⟨callB_of 2 hts (gI gd_up gd_c q647) rfl rfl rfl (ht _ q10) (ht _ q644) hd_M_keep ⟨Nat.le_of_ble_eq_true rfl, Nat.le_of_ble_eq_true rfl⟩, ht _ q646, ht _ qs25⟩ (z_preV hK (va_recv hK.1 hM.1 (ci := 10) (q0 := 0) rfl rfl)) rfl rfl hl.1 rfl (lv_room (Nat.le_of_ble_eq_true rfl)) d_M_rewrite_158 ⟨Nat.le_refl _, Nat.le_refl _⟩) hS (fun _ h9 => h9) (fun v30 H locs hv29 hz31 hf32 hS => ?_)
  have hk9 : kO D dT mm wd lf rt tc ty F sz j t (2 :: (size4 (px ++ (([] : List Nat) ++ sx)).length ++ (px ++ (([] : List Nat) ++ sx)))) v30 H := ⟨_, _, _, _, _, hW.1, hv29⟩
  obtain ⟨r9, er9⟩ : ∃ r9 : Int32, v30 = some (.int r9) := by rcases hv29 with ⟨-, e9, -⟩ | ⟨-, e9, -⟩ <;> exact ⟨_, e9⟩
  subst er9
  refine W.eq (g2 := F0 m 161 ls [.int r9]) rfl ?_
  exact z_iretQ hx hb hr hlocks d_M_rewrite_161 hS (Nat.le_refl _) (Nat.le_refl _) hk9
