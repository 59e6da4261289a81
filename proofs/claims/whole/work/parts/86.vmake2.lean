theorem wl_row {k t : Nat} : wlen (.natCast k) t = 5 + nI (k % 16) := by
  unfold wlen
  rw [l_row, show (5 : Int32) = nI 5 from rfl, nI_add]
theorem wl_sub {x v : VT} {t : Nat} : wlen (.sub x v) t = 2 + nI (cs v).length := by
  unfold wlen
  rw [l_sub, show (2 : Int32) = nI 2 from rfl, nI_add]
theorem wl_add {x y : VT} {t : Nat} : wlen (.add x y) t = 2 + nI (cs x).length + nI (cs y).length := by
  unfold wlen
  rw [l_add, show (2 : Int32) = nI 2 from rfl, nI_add, nI_add]
theorem wl_cons {tb : Nat → TR} {v y : VT} {t u : Nat} (hv : wty tb v 0 u) (hy : wty tb y 1 t) (h11 : tW (tb t) = 11) : wlen (.mul v y) t = wlen y t + nI (cs v).length ∧ nI (clen (.mul v y)) = nI (clen y) + 1 := by
  have e : (cs (.pow (.mul v y) t)).length = (cs (.pow y t)).length + (cs v).length := by
    rw [l_mul, cs_mul, eb_pow hv, List.length_append]
    cases y with
    | mul a b => rw [l_mul]; omega
    | intCast n => rw [l_nil]; show 5 + ((cs v).length + 0) = _; omega
    | _ => simp only [wty] at hy; omega
  refine ⟨?_, ?_⟩
  · unfold wlen; rw [e, nI_add]
  · exact (nI_1 (clen y)).symm
theorem wty_row {tb : Nat → TR} {tc : Nat} (hO : tOK tb tc) {n L k : Nat} (hk : k = 5 ∨ k = 6) (hn : n ≤ 8) : wty tb (.pow (.natCast (n + 16 * (L % 256 ^ n))) k) 0 k := by
  have e : tW (tb k) = k := (hO.2.2 k (by have := hO.2.1; omega)).2.2.1 (by omega)
  refine ⟨rfl, rfl, rfl, ?_⟩
  rw [e, (row_code hn).1, (row_code hn).2]
  exact ⟨hk, hn, Nat.mod_lt _ (Nat.pow_pos (by decide))⟩
theorem wty_var {tb : Nat → TR} {tc : Nat} (hO : tOK tb tc) {i k : Nat} (h : (k = 0 ∧ i = 0) ∨ (k = 1 ∧ (i = 1 ∨ i = 2))) : wty tb (.pow (.var i) k) 0 k := by
  have e : tW (tb k) = k := (hO.2.2 k (by have := hO.2.1; omega)).2.2.1 (by omega)
  refine ⟨rfl, rfl, rfl, ?_⟩
  rcases h with ⟨rfl, rfl⟩ | ⟨rfl, h⟩
  · exact Or.inl ⟨e, rfl⟩
  · exact Or.inr (Or.inl ⟨e, h⟩)
theorem bt_out {t n : Int32} {x : Int64} (h5 : ¬ t = 5) (h6 : ¬ t = 6) : o_bytes t x n = none := if_neg (fun q => q.1.elim h5 h6)
abbrev b_V_bytes : ByteArray := prog_1_method_6_code
abbrev y_V_bytes : MethodName := ⟨"ValueTrees", "bytes", "(IIJI)I"⟩
abbrev w_V_bytes : List Cond := .code y_V_bytes b_V_bytes 7 (Option.some .int) :: gt
theorem hd_V_bytes : (y_V_bytes).cls ≠ "java/lang/invoke/MethodHandle" ∧ (y_V_bytes).cls ≠ "java/lang/invoke/VarHandle" ∧ (parseMethodDescriptor (y_V_bytes).desc).map (fun d => d.parameters.length) = some 4 := by decide +kernel
theorem d_V_bytes_0 : decode b_V_bytes 0 = .ok (.iload_n 2, 1) := by decide +kernel
theorem d_V_bytes_1 : decode b_V_bytes 1 = .ok (.iconst 5, 1) := by decide +kernel
theorem d_V_bytes_2 : decode b_V_bytes 2 = .ok (.if_icmp .eq 9, 3) := by decide +kernel
theorem d_V_bytes_5 : decode b_V_bytes 5 = .ok (.iload_n 2, 1) := by decide +kernel
theorem d_V_bytes_6 : decode b_V_bytes 6 = .ok (.bipush 6, 2) := by decide +kernel
theorem d_V_bytes_8 : decode b_V_bytes 8 = .ok (.if_icmp .ne 19, 3) := by decide +kernel
theorem d_V_bytes_11 : decode b_V_bytes 11 = .ok (.iload 5, 2) := by decide +kernel
theorem d_V_bytes_13 : decode b_V_bytes 13 = .ok (.ifCond .lt 14, 3) := by decide +kernel
theorem d_V_bytes_16 : decode b_V_bytes 16 = .ok (.iload 5, 2) := by decide +kernel
theorem d_V_bytes_18 : decode b_V_bytes 18 = .ok (.bipush 8, 2) := by decide +kernel
theorem d_V_bytes_20 : decode b_V_bytes 20 = .ok (.if_icmp .gt 7, 3) := by decide +kernel
theorem d_V_bytes_23 : decode b_V_bytes 23 = .ok (.iconst 1, 1) := by decide +kernel
theorem d_V_bytes_24 : decode b_V_bytes 24 = .ok (.goto 4, 3) := by decide +kernel
theorem d_V_bytes_27 : decode b_V_bytes 27 = .ok (.iconst 0, 1) := by decide +kernel
theorem d_V_bytes_28 : decode b_V_bytes 28 = .ok (.istore 6, 2) := by decide +kernel
theorem d_V_bytes_30 : decode b_V_bytes 30 = .ok (.iload 6, 2) := by decide +kernel
theorem d_V_bytes_32 : decode b_V_bytes 32 = .ok (.ifCond .eq 22, 3) := by decide +kernel
theorem d_V_bytes_35 : decode b_V_bytes 35 = .ok (.aload_n 0, 1) := by decide +kernel
theorem d_V_bytes_36 : decode b_V_bytes 36 = .ok (.iload_n 1, 1) := by decide +kernel
theorem d_V_bytes_37 : decode b_V_bytes 37 = .ok (.new 99, 3) := by decide +kernel
theorem d_V_bytes_40 : decode b_V_bytes 40 = .ok (.dup, 1) := by decide +kernel
theorem d_V_bytes_41 : decode b_V_bytes 41 = .ok (.iload_n 2, 1) := by decide +kernel
theorem d_V_bytes_42 : decode b_V_bytes 42 = .ok (.lload_n 3, 1) := by decide +kernel
theorem d_V_bytes_43 : decode b_V_bytes 43 = .ok (.iload 5, 2) := by decide +kernel
theorem d_V_bytes_45 : decode b_V_bytes 45 = .ok (.invokespecial 101, 3) := by decide +kernel
theorem d_V_bytes_48 : decode b_V_bytes 48 = .ok (.invokevirtual 73, 3) := by decide +kernel
theorem d_V_bytes_51 : decode b_V_bytes 51 = .ok (.goto 4, 3) := by decide +kernel
theorem d_V_bytes_54 : decode b_V_bytes 54 = .ok (.iconst (-1), 1) := by decide +kernel
theorem d_V_bytes_55 : decode b_V_bytes 55 = .ok (.ireturn, 1) := by decide +kernel
set_option maxHeartbeats 4000000 in
set_option maxRecDepth 100000 in
theorem p_V_bytes (l : Launch) (D : va_G) (dT : Nat → ClassId) (H : Heap) (Bq : Nat → Prop) (vv rg li ed : Nat) (tb : Nat → TR) (tc : Nat) (RV : Nat → Option VT) (hC : cI D dT Bq vv rg li ed tb tc RV H) (hV : vOK tb tc RV) (r t : Int32) (x : Int64) (n : Int32) : Met l y_V_bytes w_V_bytes ({ frames := 3, cells := 1, slots := 4, locals := 66 }) (z_P D dT [.ref vv, .int r, .int t, .long x, .int n] H) (z_Q (fun q => q = rg ∨ H.size ≤ q) (fun v H1 => v = some (.int (kp RV r (o_bytes t x n)).1) ∧ cI D dT Bq vv rg li ed tb tc (kp RV r (o_bytes t x n)).2 H1)) 1 4 (fun q => q = rg ∨ H.size ≤ q) := by
  obtain ⟨⟨hBs, hBr, hBl, hBe, hBv, hrl, hre, hle⟩, hvv, hCR, hCT⟩ := id hC
  have hO := hV.1
  have htc := hO.1
  have htc10 := hO.2.1
  refine Met.ofW (cc := b_V_bytes) (maxL := 7) (ret := (Option.some .int)) (by decide) rfl ?_
  intro p e s m args below meth c s₁ B hml hv
  obtain ⟨rfl, rfl, hK⟩ := hv
  have hx := B.exec
  have hb := B.bytes
  have hr := B.returns
  have hts := atoms_spec (ws := w_V_bytes) B.pre
  have ht : ∀ w9 ∈ gt, w9.before [.ref vv, .int r, .int t, .long x, .int n].toArray s = true := fun w9 h => hts w9 (List.mem_cons_of_mem _ h)
  have hown : s.vm.findClass "ValueTrees" = some m.cls := findClass_of_methodNamed B.named
  have hlocks := B.notSynchronized
  have hS : va_S (fun q => q = rg ∨ s.heap.size ≤ q) s.heap s.heap [] := va_S.rf
  have hl := lv_entry ([.ref vv, .int r, .int t, .long x, .int n]) (n := 7) (Nat.le_of_ble_eq_true rfl)
  rw [lg_entry_eq]
  generalize (lg_sl ([.ref vv, .int r, .int t, .long x, .int n]) ++ List.replicate (7 - (lg_sl ([.ref vv, .int r, .int t, .long x, .int n])).length) Slot.unset).toArray = ls at hl ⊢
  have hl : lv_has ls 7 [(0, .ref vv), (1, .int r), (2, .int t), (3, .long x), (5, .int n)] := hl
  have hN : nU s.heap s.heap := nU.rf
  refine lv_iload_n hx hb d_V_bytes_0 rfl (lv_at hl 2 rfl) ?_
  refine lv_iconst (v := 5) hx hb d_V_bytes_1 (by decide) ?_
  refine lv_icmp_eq (tgt := 11) hx hb d_V_bytes_2 (by decide) (fun c1 => ?_) (fun c1 => ?_)
  · have et9 : t = 5 := c1
    subst et9
    refine lv_iload hx hb d_V_bytes_11 (lv_at hl 4 rfl) ?_
    refine lv_if_lt (tgt := 27) hx hb d_V_bytes_13 (by decide) (fun c2 => ?_) (fun c2 => ?_)
    · refine lv_iconst (v := 0) hx hb d_V_bytes_27 (by decide) ?_
      refine lv_istore (lv' := [(6, .int 0), (0, .ref vv), (1, .int r), (2, .int 5), (3, .long x), (5, .int n)]) hx hb d_V_bytes_28 hl (by decide) rfl (fun ls hl => ?_)
      refine lv_iload hx hb d_V_bytes_30 (lv_at hl 0 rfl) ?_
      refine lv_if_eq (tgt := 54) hx hb d_V_bytes_32 (by decide) (fun _ => ?_) (fun c3 => absurd c3 (by decide))
      refine lv_iconst (v := (-1)) hx hb d_V_bytes_54 (by decide) ?_
      exact z_iretQ hx hb hr hlocks d_V_bytes_55 hS (Nat.le_of_ble_eq_true rfl) (Nat.le_of_ble_eq_true rfl) (by rw [show o_bytes 5 x n = none from by_n (Or.inl c2)]; exact ⟨rfl, hC⟩)
    · refine lv_iload hx hb d_V_bytes_16 (lv_at hl 4 rfl) ?_
      refine lv_bipush (v := 8) hx hb d_V_bytes_18 (by decide) ?_
      refine lv_icmp_gt (tgt := 27) hx hb d_V_bytes_20 (by decide) (fun c4 => ?_) (fun c4 => ?_)
      · refine lv_iconst (v := 0) hx hb d_V_bytes_27 (by decide) ?_
        refine lv_istore (lv' := [(6, .int 0), (0, .ref vv), (1, .int r), (2, .int 5), (3, .long x), (5, .int n)]) hx hb d_V_bytes_28 hl (by decide) rfl (fun ls hl => ?_)
        refine lv_iload hx hb d_V_bytes_30 (lv_at hl 0 rfl) ?_
        refine lv_if_eq (tgt := 54) hx hb d_V_bytes_32 (by decide) (fun _ => ?_) (fun c5 => absurd c5 (by decide))
        refine lv_iconst (v := (-1)) hx hb d_V_bytes_54 (by decide) ?_
        exact z_iretQ hx hb hr hlocks d_V_bytes_55 hS (Nat.le_of_ble_eq_true rfl) (Nat.le_of_ble_eq_true rfl) (by rw [show o_bytes 5 x n = none from by_n (Or.inr c4)]; exact ⟨rfl, hC⟩)
      · obtain ⟨nn, hnn, rfl⟩ := nI_of (x := n) c2
        have hn8 : nn ≤ 8 := (nI_leI (a := nn) (b := 8) hnn (by decide)).mp (Int32.not_lt.mp c4)
        refine lv_iconst (v := 1) hx hb d_V_bytes_23 (by decide) ?_
        refine lv_goto (tgt := 28) hx hb d_V_bytes_24 (by decide) ?_
        refine lv_istore (lv' := [(6, .int 1), (0, .ref vv), (1, .int r), (2, .int 5), (3, .long x), (5, .int (nI nn))]) hx hb d_V_bytes_28 hl (by decide) rfl (fun ls hl => ?_)
        refine lv_iload hx hb d_V_bytes_30 (lv_at hl 0 rfl) ?_
        refine lv_if_eq (tgt := 54) hx hb d_V_bytes_32 (by decide) (fun c6 => absurd c6 (by decide)) (fun _ => ?_)
        refine lv_aload_n hx hb d_V_bytes_35 rfl (lv_at hl 1 rfl) ?_
        refine lv_iload_n hx hb d_V_bytes_36 rfl (lv_at hl 2 rfl) ?_
        have hSp := hS
        refine z_newo (ci := 3) hx hb ht in_Row ty_Row tyk_Row hown (ht _ q283) (ht _ q284) (ht _ q15) hK hS rfl fs_Row (Nat.le_of_ble_eq_true rfl) (Nat.le_of_ble_eq_true rfl) d_V_bytes_37 (fun ad7 H hqad7 hzad7 oad7 hoad7 hS => ?_)
        have hgad7 : s.heap.size ≤ ad7 := by rw [hqad7]; exact hSp.1
        have hAad7 : (fun q => q = rg ∨ s.heap.size ≤ q) ad7 := (Or.inr hgad7)
        have hgbad7 := Nat.le_trans hN.1 (Nat.le_of_eq hqad7.symm)
        have hN := hN.grew hzad7 hoad7
        refine lv_dup hx hb d_V_bytes_40 rfl ?_
        refine lv_iload_n hx hb d_V_bytes_41 rfl (lv_at hl 3 rfl) ?_
        refine lv_lload_n hx hb d_V_bytes_42 rfl (lv_at hl 4 rfl) ?_
        refine lv_iload hx hb d_V_bytes_43 (lv_at hl 5 rfl) ?_
        refine z_callQ (va_runI (As := [.int 5, .long x, .int (nI nn)]) (rest := [.ref ad7, .int r, .ref vv]) ⟨hx, hb, hml, hown, hts⟩ (c_Row_init l D dT _ ad7 oad7 5 x (nI nn)) ⟨callB_of 3 hts (gI gd_up gd_c q287) rfl rfl rfl (ht _ q15) (ht _ q285) hd_Row_init ⟨Nat.le_of_ble_eq_true rfl, Nat.le_of_ble_eq_true rfl⟩, rfl, ht _ q286⟩ (z_preS hK) rfl rfl hl.1 rfl (lv_room (Nat.le_of_ble_eq_true rfl)) d_V_bytes_45 ⟨(Nat.le_of_ble_eq_true rfl), (Nat.le_of_ble_eq_true rfl)⟩) hS (fun q9 h9 => by rw [show q9 = ad7 from h9]; exact hAad7) (fun v9 H locs hv8 hz10 hf11 hS => ?_)
        obtain ⟨rfl, oad7⟩ := hv8
        have oad7 : va_at D cls (ad7, .inr (3, [.int 5, .int (5 + (nI nn)), .long x, .int (nI nn)])) H := oad7
        have hN := hN.call hz10 hf11 (fun x hx h9 => by have h8 : x = ad7 := h9; omega)
        refine W.eq (g2 := F0 m 48 ls [.ref ad7, .int r, .ref vv]) rfl ?_
        have hcd := row_code (n := nn) (L := x.toUInt64.toNat) hn8
        have hwx : wty tb (.pow (.natCast (nn + 16 * (x.toUInt64.toNat % 256 ^ nn))) 5) 0 5 := wty_row hO (by decide) hn8
        have hrx : rv D dT Bq H (.pow (.natCast (nn + 16 * (x.toUInt64.toNat % 256 ^ nn))) 5) ad7 := rv_row.mpr ⟨x, by rw [wl_row, hcd.1]; exact oad7, (fun h9 => absurd (hBs _ h9) (Nat.not_lt.mpr hgad7)), by rw [hcd.1, hcd.2]⟩
        refine z_callQ (va_runV (C := "ValueTrees") (As := [.int r, .ref ad7]) (rest := []) ⟨hx, hb, hml, hown, hts⟩ (c_V_keep_r l D dT _ Bq vv rg li ed tb tc RV (hC.up hN) hV r (.pow (.natCast (nn + 16 * (x.toUInt64.toNat % 256 ^ nn))) 5) 5 ad7 hwx hrx (by rw [l_row, hcd.1]; omega)) ⟨callB_of 2 hts (gI gd_up gd_c q264) rfl rfl rfl (ht _ q1) (ht _ q261) hd_V_keep ⟨Nat.le_of_ble_eq_true rfl, Nat.le_of_ble_eq_true rfl⟩, ht _ q263, ht _ qs6⟩ (z_preV hK (va_recv hK.1 (z_1 (hvv.grew hN.2)) (ci := 0) (q0 := 0) rfl rfl)) rfl rfl hl.1 rfl (lv_room (Nat.le_of_ble_eq_true rfl)) d_V_bytes_48 ⟨(Nat.le_of_ble_eq_true rfl), (Nat.le_of_ble_eq_true rfl)⟩) hS (fun _ h9 => Or.inl h9) (fun v13 H locs hv12 hz14 hf15 hS => ?_)
        obtain ⟨rfl, hC⟩ := hv12
        refine W.eq (g2 := F0 m 51 ls [.int ((kp RV r (some (.pow (.natCast (nn + 16 * (x.toUInt64.toNat % 256 ^ nn))) 5))).1)]) rfl ?_
        refine lv_goto (tgt := 55) hx hb d_V_bytes_51 (by decide) ?_
        exact z_iretQ hx hb hr hlocks d_V_bytes_55 hS (Nat.le_of_ble_eq_true rfl) (Nat.le_of_ble_eq_true rfl) (by rw [show o_bytes 5 x (nI nn) = some (.pow (.natCast (nn + 16 * (x.toUInt64.toNat % 256 ^ nn))) 5) from by_o (k := 5) (by decide) hn8]; exact ⟨rfl, hC⟩)
  · refine lv_iload_n hx hb d_V_bytes_5 rfl (lv_at hl 2 rfl) ?_
    refine lv_bipush (v := 6) hx hb d_V_bytes_6 (by decide) ?_
    refine lv_icmp_ne (tgt := 27) hx hb d_V_bytes_8 (by decide) (fun c16 => ?_) (fun c16 => ?_)
    · refine lv_iconst (v := 0) hx hb d_V_bytes_27 (by decide) ?_
      refine lv_istore (lv' := [(6, .int 0), (0, .ref vv), (1, .int r), (2, .int t), (3, .long x), (5, .int n)]) hx hb d_V_bytes_28 hl (by decide) rfl (fun ls hl => ?_)
      refine lv_iload hx hb d_V_bytes_30 (lv_at hl 0 rfl) ?_
      refine lv_if_eq (tgt := 54) hx hb d_V_bytes_32 (by decide) (fun _ => ?_) (fun c17 => absurd c17 (by decide))
      refine lv_iconst (v := (-1)) hx hb d_V_bytes_54 (by decide) ?_
      exact z_iretQ hx hb hr hlocks d_V_bytes_55 hS (Nat.le_of_ble_eq_true rfl) (Nat.le_of_ble_eq_true rfl) (by rw [bt_out c1 c16]; exact ⟨rfl, hC⟩)
    · have et9 : t = 6 := c16
      subst et9
      refine lv_iload hx hb d_V_bytes_11 (lv_at hl 4 rfl) ?_
      refine lv_if_lt (tgt := 27) hx hb d_V_bytes_13 (by decide) (fun c18 => ?_) (fun c18 => ?_)
      · refine lv_iconst (v := 0) hx hb d_V_bytes_27 (by decide) ?_
        refine lv_istore (lv' := [(6, .int 0), (0, .ref vv), (1, .int r), (2, .int 6), (3, .long x), (5, .int n)]) hx hb d_V_bytes_28 hl (by decide) rfl (fun ls hl => ?_)
        refine lv_iload hx hb d_V_bytes_30 (lv_at hl 0 rfl) ?_
        refine lv_if_eq (tgt := 54) hx hb d_V_bytes_32 (by decide) (fun _ => ?_) (fun c19 => absurd c19 (by decide))
        refine lv_iconst (v := (-1)) hx hb d_V_bytes_54 (by decide) ?_
        exact z_iretQ hx hb hr hlocks d_V_bytes_55 hS (Nat.le_of_ble_eq_true rfl) (Nat.le_of_ble_eq_true rfl) (by rw [show o_bytes 6 x n = none from by_n (Or.inl c18)]; exact ⟨rfl, hC⟩)
      · refine lv_iload hx hb d_V_bytes_16 (lv_at hl 4 rfl) ?_
        refine lv_bipush (v := 8) hx hb d_V_bytes_18 (by decide) ?_
        refine lv_icmp_gt (tgt := 27) hx hb d_V_bytes_20 (by decide) (fun c20 => ?_) (fun c20 => ?_)
        · refine lv_iconst (v := 0) hx hb d_V_bytes_27 (by decide) ?_
          refine lv_istore (lv' := [(6, .int 0), (0, .ref vv), (1, .int r), (2, .int 6), (3, .long x), (5, .int n)]) hx hb d_V_bytes_28 hl (by decide) rfl (fun ls hl => ?_)
          refine lv_iload hx hb d_V_bytes_30 (lv_at hl 0 rfl) ?_
          refine lv_if_eq (tgt := 54) hx hb d_V_bytes_32 (by decide) (fun _ => ?_) (fun c21 => absurd c21 (by decide))
          refine lv_iconst (v := (-1)) hx hb d_V_bytes_54 (by decide) ?_
          exact z_iretQ hx hb hr hlocks d_V_bytes_55 hS (Nat.le_of_ble_eq_true rfl) (Nat.le_of_ble_eq_true rfl) (by rw [show o_bytes 6 x n = none from by_n (Or.inr c20)]; exact ⟨rfl, hC⟩)
        · obtain ⟨nn, hnn, rfl⟩ := nI_of (x := n) c18
          have hn8 : nn ≤ 8 := (nI_leI (a := nn) (b := 8) hnn (by decide)).mp (Int32.not_lt.mp c20)
          refine lv_iconst (v := 1) hx hb d_V_bytes_23 (by decide) ?_
          refine lv_goto (tgt := 28) hx hb d_V_bytes_24 (by decide) ?_
          refine lv_istore (lv' := [(6, .int 1), (0, .ref vv), (1, .int r), (2, .int 6), (3, .long x), (5, .int (nI nn))]) hx hb d_V_bytes_28 hl (by decide) rfl (fun ls hl => ?_)
          refine lv_iload hx hb d_V_bytes_30 (lv_at hl 0 rfl) ?_
          refine lv_if_eq (tgt := 54) hx hb d_V_bytes_32 (by decide) (fun c22 => absurd c22 (by decide)) (fun _ => ?_)
          refine lv_aload_n hx hb d_V_bytes_35 rfl (lv_at hl 1 rfl) ?_
          refine lv_iload_n hx hb d_V_bytes_36 rfl (lv_at hl 2 rfl) ?_
          have hSp := hS
          refine z_newo (ci := 3) hx hb ht in_Row ty_Row tyk_Row hown (ht _ q283) (ht _ q284) (ht _ q15) hK hS rfl fs_Row (Nat.le_of_ble_eq_true rfl) (Nat.le_of_ble_eq_true rfl) d_V_bytes_37 (fun ad23 H hqad23 hzad23 oad23 hoad23 hS => ?_)
          have hgad23 : s.heap.size ≤ ad23 := by rw [hqad23]; exact hSp.1
          have hAad23 : (fun q => q = rg ∨ s.heap.size ≤ q) ad23 := (Or.inr hgad23)
          have hgbad23 := Nat.le_trans hN.1 (Nat.le_of_eq hqad23.symm)
          have hN := hN.grew hzad23 hoad23
          refine lv_dup hx hb d_V_bytes_40 rfl ?_
          refine lv_iload_n hx hb d_V_bytes_41 rfl (lv_at hl 3 rfl) ?_
          refine lv_lload_n hx hb d_V_bytes_42 rfl (lv_at hl 4 rfl) ?_
          refine lv_iload hx hb d_V_bytes_43 (lv_at hl 5 rfl) ?_
          refine z_callQ (va_runI (As := [.int 6, .long x, .int (nI nn)]) (rest := [.ref ad23, .int r, .ref vv]) ⟨hx, hb, hml, hown, hts⟩ (c_Row_init l D dT _ ad23 oad23 6 x (nI nn)) ⟨callB_of 3 hts (gI gd_up gd_c q287) rfl rfl rfl (ht _ q15) (ht _ q285) hd_Row_init ⟨Nat.le_of_ble_eq_true rfl, Nat.le_of_ble_eq_true rfl⟩, rfl, ht _ q286⟩ (z_preS hK) rfl rfl hl.1 rfl (lv_room (Nat.le_of_ble_eq_true rfl)) d_V_bytes_45 ⟨(Nat.le_of_ble_eq_true rfl), (Nat.le_of_ble_eq_true rfl)⟩) hS (fun q9 h9 => by rw [show q9 = ad23 from h9]; exact hAad23) (fun v25 H locs hv24 hz26 hf27 hS => ?_)
          obtain ⟨rfl, oad23⟩ := hv24
          have oad23 : va_at D cls (ad23, .inr (3, [.int 6, .int (5 + (nI nn)), .long x, .int (nI nn)])) H := oad23
          have hN := hN.call hz26 hf27 (fun x hx h9 => by have h8 : x = ad23 := h9; omega)
          refine W.eq (g2 := F0 m 48 ls [.ref ad23, .int r, .ref vv]) rfl ?_
          have hcd := row_code (n := nn) (L := x.toUInt64.toNat) hn8
          have hwx : wty tb (.pow (.natCast (nn + 16 * (x.toUInt64.toNat % 256 ^ nn))) 6) 0 6 := wty_row hO (by decide) hn8
          have hrx : rv D dT Bq H (.pow (.natCast (nn + 16 * (x.toUInt64.toNat % 256 ^ nn))) 6) ad23 := rv_row.mpr ⟨x, by rw [wl_row, hcd.1]; exact oad23, (fun h9 => absurd (hBs _ h9) (Nat.not_lt.mpr hgad23)), by rw [hcd.1, hcd.2]⟩
          refine z_callQ (va_runV (C := "ValueTrees") (As := [.int r, .ref ad23]) (rest := []) ⟨hx, hb, hml, hown, hts⟩ (c_V_keep_r l D dT _ Bq vv rg li ed tb tc RV (hC.up hN) hV r (.pow (.natCast (nn + 16 * (x.toUInt64.toNat % 256 ^ nn))) 6) 6 ad23 hwx hrx (by rw [l_row, hcd.1]; omega)) ⟨callB_of 2 hts (gI gd_up gd_c q264) rfl rfl rfl (ht _ q1) (ht _ q261) hd_V_keep ⟨Nat.le_of_ble_eq_true rfl, Nat.le_of_ble_eq_true rfl⟩, ht _ q263, ht _ qs6⟩ (z_preV hK (va_recv hK.1 (z_1 (hvv.grew hN.2)) (ci := 0) (q0 := 0) rfl rfl)) rfl rfl hl.1 rfl (lv_room (Nat.le_of_ble_eq_true rfl)) d_V_bytes_48 ⟨(Nat.le_of_ble_eq_true rfl), (Nat.le_of_ble_eq_true rfl)⟩) hS (fun _ h9 => Or.inl h9) (fun v29 H locs hv28 hz30 hf31 hS => ?_)
          obtain ⟨rfl, hC⟩ := hv28
          refine W.eq (g2 := F0 m 51 ls [.int ((kp RV r (some (.pow (.natCast (nn + 16 * (x.toUInt64.toNat % 256 ^ nn))) 6))).1)]) rfl ?_
          refine lv_goto (tgt := 55) hx hb d_V_bytes_51 (by decide) ?_
          exact z_iretQ hx hb hr hlocks d_V_bytes_55 hS (Nat.le_of_ble_eq_true rfl) (Nat.le_of_ble_eq_true rfl) (by rw [show o_bytes 6 x (nI nn) = some (.pow (.natCast (nn + 16 * (x.toUInt64.toNat % 256 ^ nn))) 6) from by_o (k := 6) (by decide) hn8]; exact ⟨rfl, hC⟩)
abbrev b_V_simple : ByteArray := prog_1_method_7_code
abbrev y_V_simple : MethodName := ⟨"ValueTrees", "simple", "(II)I"⟩
abbrev w_V_simple : List Cond := .code y_V_simple b_V_simple 3 (Option.some .int) :: gt
theorem hd_V_simple : (y_V_simple).cls ≠ "java/lang/invoke/MethodHandle" ∧ (y_V_simple).cls ≠ "java/lang/invoke/VarHandle" ∧ (parseMethodDescriptor (y_V_simple).desc).map (fun d => d.parameters.length) = some 2 := by decide +kernel
theorem d_V_simple_0 : decode b_V_simple 0 = .ok (.iload_n 2, 1) := by decide +kernel
theorem d_V_simple_1 : decode b_V_simple 1 = .ok (.tableswitch 75 0 2 #[27, 43, 59], 27) := by decide +kernel
theorem d_V_simple_28 : decode b_V_simple 28 = .ok (.aload_n 0, 1) := by decide +kernel
theorem d_V_simple_29 : decode b_V_simple 29 = .ok (.iload_n 1, 1) := by decide +kernel
theorem d_V_simple_30 : decode b_V_simple 30 = .ok (.new 104, 3) := by decide +kernel
theorem d_V_simple_33 : decode b_V_simple 33 = .ok (.dup, 1) := by decide +kernel
theorem d_V_simple_34 : decode b_V_simple 34 = .ok (.iconst 0, 1) := by decide +kernel
theorem d_V_simple_35 : decode b_V_simple 35 = .ok (.iconst (-1), 1) := by decide +kernel
theorem d_V_simple_36 : decode b_V_simple 36 = .ok (.aconst_null, 1) := by decide +kernel
theorem d_V_simple_37 : decode b_V_simple 37 = .ok (.invokespecial 106, 3) := by decide +kernel
theorem d_V_simple_40 : decode b_V_simple 40 = .ok (.invokevirtual 73, 3) := by decide +kernel
theorem d_V_simple_43 : decode b_V_simple 43 = .ok (.ireturn, 1) := by decide +kernel
theorem d_V_simple_44 : decode b_V_simple 44 = .ok (.aload_n 0, 1) := by decide +kernel
theorem d_V_simple_45 : decode b_V_simple 45 = .ok (.iload_n 1, 1) := by decide +kernel
theorem d_V_simple_46 : decode b_V_simple 46 = .ok (.new 104, 3) := by decide +kernel
theorem d_V_simple_49 : decode b_V_simple 49 = .ok (.dup, 1) := by decide +kernel
theorem d_V_simple_50 : decode b_V_simple 50 = .ok (.iconst 1, 1) := by decide +kernel
theorem d_V_simple_51 : decode b_V_simple 51 = .ok (.iconst 0, 1) := by decide +kernel
theorem d_V_simple_52 : decode b_V_simple 52 = .ok (.aconst_null, 1) := by decide +kernel
theorem d_V_simple_53 : decode b_V_simple 53 = .ok (.invokespecial 106, 3) := by decide +kernel
theorem d_V_simple_56 : decode b_V_simple 56 = .ok (.invokevirtual 73, 3) := by decide +kernel
theorem d_V_simple_59 : decode b_V_simple 59 = .ok (.ireturn, 1) := by decide +kernel
theorem d_V_simple_60 : decode b_V_simple 60 = .ok (.aload_n 0, 1) := by decide +kernel
theorem d_V_simple_61 : decode b_V_simple 61 = .ok (.iload_n 1, 1) := by decide +kernel
theorem d_V_simple_62 : decode b_V_simple 62 = .ok (.new 104, 3) := by decide +kernel
theorem d_V_simple_65 : decode b_V_simple 65 = .ok (.dup, 1) := by decide +kernel
theorem d_V_simple_66 : decode b_V_simple 66 = .ok (.iconst 1, 1) := by decide +kernel
theorem d_V_simple_67 : decode b_V_simple 67 = .ok (.iconst 1, 1) := by decide +kernel
theorem d_V_simple_68 : decode b_V_simple 68 = .ok (.aconst_null, 1) := by decide +kernel
theorem d_V_simple_69 : decode b_V_simple 69 = .ok (.invokespecial 106, 3) := by decide +kernel
theorem d_V_simple_72 : decode b_V_simple 72 = .ok (.invokevirtual 73, 3) := by decide +kernel
theorem d_V_simple_75 : decode b_V_simple 75 = .ok (.ireturn, 1) := by decide +kernel
theorem d_V_simple_76 : decode b_V_simple 76 = .ok (.iconst (-1), 1) := by decide +kernel
theorem d_V_simple_77 : decode b_V_simple 77 = .ok (.ireturn, 1) := by decide +kernel
set_option maxHeartbeats 4000000 in
set_option maxRecDepth 100000 in
theorem p_V_simple (l : Launch) (D : va_G) (dT : Nat → ClassId) (H : Heap) (Bq : Nat → Prop) (vv rg li ed : Nat) (tb : Nat → TR) (tc : Nat) (RV : Nat → Option VT) (hC : cI D dT Bq vv rg li ed tb tc RV H) (hV : vOK tb tc RV) (r wh9 : Int32) : Met l y_V_simple w_V_simple ({ frames := 3, cells := 1, slots := 4, locals := 65 }) (z_P D dT [.ref vv, .int r, .int wh9] H) (z_Q (fun q => q = rg ∨ H.size ≤ q) (fun v H1 => v = some (.int (kp RV r (o_simple wh9)).1) ∧ cI D dT Bq vv rg li ed tb tc (kp RV r (o_simple wh9)).2 H1)) 1 4 (fun q => q = rg ∨ H.size ≤ q) := by
  obtain ⟨⟨hBs, hBr, hBl, hBe, hBv, hrl, hre, hle⟩, hvv, hCR, hCT⟩ := id hC
  have hO := hV.1
  have htc := hO.1
  have htc10 := hO.2.1
  refine Met.ofW (cc := b_V_simple) (maxL := 3) (ret := (Option.some .int)) (by decide) rfl ?_
  intro p e s m args below meth c s₁ B hml hv
  obtain ⟨rfl, rfl, hK⟩ := hv
  have hx := B.exec
  have hb := B.bytes
  have hr := B.returns
  have hts := atoms_spec (ws := w_V_simple) B.pre
  have ht : ∀ w9 ∈ gt, w9.before [.ref vv, .int r, .int wh9].toArray s = true := fun w9 h => hts w9 (List.mem_cons_of_mem _ h)
  have hown : s.vm.findClass "ValueTrees" = some m.cls := findClass_of_methodNamed B.named
  have hlocks := B.notSynchronized
  have hS : va_S (fun q => q = rg ∨ s.heap.size ≤ q) s.heap s.heap [] := va_S.rf
  have hl := lv_entry ([.ref vv, .int r, .int wh9]) (n := 3) (Nat.le_of_ble_eq_true rfl)
  rw [lg_entry_eq]
  generalize (lg_sl ([.ref vv, .int r, .int wh9]) ++ List.replicate (3 - (lg_sl ([.ref vv, .int r, .int wh9])).length) Slot.unset).toArray = ls at hl ⊢
  have hl : lv_has ls 3 [(0, .ref vv), (1, .int r), (2, .int wh9)] := hl
  have hN : nU s.heap s.heap := nU.rf
  refine lv_iload_n hx hb d_V_simple_0 rfl (lv_at hl 2 rfl) ?_
  by_cases c1 : wh9 = 0
  · refine lv_tableIn (tgt := 28) hx hb d_V_simple_1 (by rw [c1]; decide) (by rw [c1]; decide) (by rw [c1]; rfl) (by decide) ?_
    refine lv_aload_n hx hb d_V_simple_28 rfl (lv_at hl 0 rfl) ?_
    refine lv_iload_n hx hb d_V_simple_29 rfl (lv_at hl 1 rfl) ?_
    have hSp := hS
    refine z_newo (ci := 4) hx hb ht in_Choice ty_Choice tyk_Choice hown (ht _ q303) (ht _ q304) (ht _ q16) hK hS rfl fs_Choice (Nat.le_of_ble_eq_true rfl) (Nat.le_of_ble_eq_true rfl) d_V_simple_30 (fun ad2 H hqad2 hzad2 oad2 hoad2 hS => ?_)
    have hgad2 : s.heap.size ≤ ad2 := by rw [hqad2]; exact hSp.1
    have hAad2 : (fun q => q = rg ∨ s.heap.size ≤ q) ad2 := (Or.inr hgad2)
    have hgbad2 := Nat.le_trans hN.1 (Nat.le_of_eq hqad2.symm)
    have hN := hN.grew hzad2 hoad2
    refine lv_dup hx hb d_V_simple_33 rfl ?_
    refine lv_iconst (v := 0) hx hb d_V_simple_34 (by decide) ?_
    refine lv_iconst (v := (-1)) hx hb d_V_simple_35 (by decide) ?_
    refine lv_null hx hb d_V_simple_36 ?_
    refine z_callQ (va_runI (As := [.int 0, .int (-1), .null]) (rest := [.ref ad2, .int r, .ref vv]) ⟨hx, hb, hml, hown, hts⟩ (c_Choice_init_n l D dT _ ad2 oad2 0 (-1)) ⟨callB_of 3 hts (gI gd_up gd_c q307) rfl rfl rfl (ht _ q16) (ht _ q305) hd_Choice_init ⟨Nat.le_of_ble_eq_true rfl, Nat.le_of_ble_eq_true rfl⟩, rfl, ht _ q306⟩ (z_preS hK) rfl rfl hl.1 rfl (lv_room (Nat.le_of_ble_eq_true rfl)) d_V_simple_37 ⟨(Nat.le_of_ble_eq_true rfl), (Nat.le_of_ble_eq_true rfl)⟩) hS (fun q9 h9 => by rw [show q9 = ad2 from h9]; exact hAad2) (fun v4 H locs hv3 hz5 hf6 hS => ?_)
    obtain ⟨rfl, oad2⟩ := hv3
    have oad2 : va_at D cls (ad2, .inr (4, [.int 0, .int 2, .int (-1), .null])) H := oad2
    have hN := hN.call hz5 hf6 (fun x hx h9 => by have h8 : x = ad2 := h9; omega)
    refine W.eq (g2 := F0 m 40 ls [.ref ad2, .int r, .ref vv]) rfl ?_
    have hwx : wty tb (.pow (.var 0) 0) 0 0 := wty_var hO (by decide)
    have hrx : rv D dT Bq H (.pow (.var 0) 0) ad2 := rv_var.mpr ⟨oad2, (fun h9 => absurd (hBs _ h9) (Nat.not_lt.mpr hgad2))⟩
    refine z_callQ (va_runV (C := "ValueTrees") (As := [.int r, .ref ad2]) (rest := []) ⟨hx, hb, hml, hown, hts⟩ (c_V_keep_r l D dT _ Bq vv rg li ed tb tc RV (hC.up hN) hV r (.pow (.var 0) 0) 0 ad2 hwx hrx (by rw [l_var]; decide)) ⟨callB_of 2 hts (gI gd_up gd_c q264) rfl rfl rfl (ht _ q1) (ht _ q261) hd_V_keep ⟨Nat.le_of_ble_eq_true rfl, Nat.le_of_ble_eq_true rfl⟩, ht _ q263, ht _ qs6⟩ (z_preV hK (va_recv hK.1 (z_1 (hvv.grew hN.2)) (ci := 0) (q0 := 0) rfl rfl)) rfl rfl hl.1 rfl (lv_room (Nat.le_of_ble_eq_true rfl)) d_V_simple_40 ⟨(Nat.le_of_ble_eq_true rfl), (Nat.le_of_ble_eq_true rfl)⟩) hS (fun _ h9 => Or.inl h9) (fun v8 H locs hv7 hz9 hf10 hS => ?_)
    obtain ⟨rfl, hC⟩ := hv7
    refine W.eq (g2 := F0 m 43 ls [.int ((kp RV r (some (.pow (.var 0) 0))).1)]) rfl ?_
    exact z_iretQ hx hb hr hlocks d_V_simple_43 hS (Nat.le_of_ble_eq_true rfl) (Nat.le_of_ble_eq_true rfl) (by rw [show o_simple wh9 = (some (.pow (.var 0) 0)) from (by unfold o_simple; rw [c1]; rfl)]; exact ⟨rfl, hC⟩)
  by_cases c11 : wh9 = 1
  · refine lv_tableIn (tgt := 44) hx hb d_V_simple_1 (by rw [c11]; decide) (by rw [c11]; decide) (by rw [c11]; rfl) (by decide) ?_
    refine lv_aload_n hx hb d_V_simple_44 rfl (lv_at hl 0 rfl) ?_
    refine lv_iload_n hx hb d_V_simple_45 rfl (lv_at hl 1 rfl) ?_
    have hSp := hS
    refine z_newo (ci := 4) hx hb ht in_Choice ty_Choice tyk_Choice hown (ht _ q303) (ht _ q304) (ht _ q16) hK hS rfl fs_Choice (Nat.le_of_ble_eq_true rfl) (Nat.le_of_ble_eq_true rfl) d_V_simple_46 (fun ad12 H hqad12 hzad12 oad12 hoad12 hS => ?_)
    have hgad12 : s.heap.size ≤ ad12 := by rw [hqad12]; exact hSp.1
    have hAad12 : (fun q => q = rg ∨ s.heap.size ≤ q) ad12 := (Or.inr hgad12)
    have hgbad12 := Nat.le_trans hN.1 (Nat.le_of_eq hqad12.symm)
    have hN := hN.grew hzad12 hoad12
    refine lv_dup hx hb d_V_simple_49 rfl ?_
    refine lv_iconst (v := 1) hx hb d_V_simple_50 (by decide) ?_
    refine lv_iconst (v := 0) hx hb d_V_simple_51 (by decide) ?_
    refine lv_null hx hb d_V_simple_52 ?_
    refine z_callQ (va_runI (As := [.int 1, .int 0, .null]) (rest := [.ref ad12, .int r, .ref vv]) ⟨hx, hb, hml, hown, hts⟩ (c_Choice_init_n l D dT _ ad12 oad12 1 0) ⟨callB_of 3 hts (gI gd_up gd_c q307) rfl rfl rfl (ht _ q16) (ht _ q305) hd_Choice_init ⟨Nat.le_of_ble_eq_true rfl, Nat.le_of_ble_eq_true rfl⟩, rfl, ht _ q306⟩ (z_preS hK) rfl rfl hl.1 rfl (lv_room (Nat.le_of_ble_eq_true rfl)) d_V_simple_53 ⟨(Nat.le_of_ble_eq_true rfl), (Nat.le_of_ble_eq_true rfl)⟩) hS (fun q9 h9 => by rw [show q9 = ad12 from h9]; exact hAad12) (fun v14 H locs hv13 hz15 hf16 hS => ?_)
    obtain ⟨rfl, oad12⟩ := hv13
    have oad12 : va_at D cls (ad12, .inr (4, [.int 1, .int 2, .int 0, .null])) H := oad12
    have hN := hN.call hz15 hf16 (fun x hx h9 => by have h8 : x = ad12 := h9; omega)
    refine W.eq (g2 := F0 m 56 ls [.ref ad12, .int r, .ref vv]) rfl ?_
    have hwx : wty tb (.pow (.var 1) 1) 0 1 := wty_var hO (by decide)
    have hrx : rv D dT Bq H (.pow (.var 1) 1) ad12 := rv_var.mpr ⟨oad12, (fun h9 => absurd (hBs _ h9) (Nat.not_lt.mpr hgad12))⟩
    refine z_callQ (va_runV (C := "ValueTrees") (As := [.int r, .ref ad12]) (rest := []) ⟨hx, hb, hml, hown, hts⟩ (c_V_keep_r l D dT _ Bq vv rg li ed tb tc RV (hC.up hN) hV r (.pow (.var 1) 1) 1 ad12 hwx hrx (by rw [l_var]; decide)) ⟨callB_of 2 hts (gI gd_up gd_c q264) rfl rfl rfl (ht _ q1) (ht _ q261) hd_V_keep ⟨Nat.le_of_ble_eq_true rfl, Nat.le_of_ble_eq_true rfl⟩, ht _ q263, ht _ qs6⟩ (z_preV hK (va_recv hK.1 (z_1 (hvv.grew hN.2)) (ci := 0) (q0 := 0) rfl rfl)) rfl rfl hl.1 rfl (lv_room (Nat.le_of_ble_eq_true rfl)) d_V_simple_56 ⟨(Nat.le_of_ble_eq_true rfl), (Nat.le_of_ble_eq_true rfl)⟩) hS (fun _ h9 => Or.inl h9) (fun v18 H locs hv17 hz19 hf20 hS => ?_)
    obtain ⟨rfl, hC⟩ := hv17
    refine W.eq (g2 := F0 m 59 ls [.int ((kp RV r (some (.pow (.var 1) 1))).1)]) rfl ?_
    exact z_iretQ hx hb hr hlocks d_V_simple_59 hS (Nat.le_of_ble_eq_true rfl) (Nat.le_of_ble_eq_true rfl) (by rw [show o_simple wh9 = (some (.pow (.var 1) 1)) from (by unfold o_simple; rw [c11]; rfl)]; exact ⟨rfl, hC⟩)
  by_cases c21 : wh9 = 2
  · refine lv_tableIn (tgt := 60) hx hb d_V_simple_1 (by rw [c21]; decide) (by rw [c21]; decide) (by rw [c21]; rfl) (by decide) ?_
    refine lv_aload_n hx hb d_V_simple_60 rfl (lv_at hl 0 rfl) ?_
    refine lv_iload_n hx hb d_V_simple_61 rfl (lv_at hl 1 rfl) ?_
    have hSp := hS
    refine z_newo (ci := 4) hx hb ht in_Choice ty_Choice tyk_Choice hown (ht _ q303) (ht _ q304) (ht _ q16) hK hS rfl fs_Choice (Nat.le_of_ble_eq_true rfl) (Nat.le_of_ble_eq_true rfl) d_V_simple_62 (fun ad22 H hqad22 hzad22 oad22 hoad22 hS => ?_)
    have hgad22 : s.heap.size ≤ ad22 := by rw [hqad22]; exact hSp.1
    have hAad22 : (fun q => q = rg ∨ s.heap.size ≤ q) ad22 := (Or.inr hgad22)
    have hgbad22 := Nat.le_trans hN.1 (Nat.le_of_eq hqad22.symm)
    have hN := hN.grew hzad22 hoad22
    refine lv_dup hx hb d_V_simple_65 rfl ?_
    refine lv_iconst (v := 1) hx hb d_V_simple_66 (by decide) ?_
    refine lv_iconst (v := 1) hx hb d_V_simple_67 (by decide) ?_
    refine lv_null hx hb d_V_simple_68 ?_
    refine z_callQ (va_runI (As := [.int 1, .int 1, .null]) (rest := [.ref ad22, .int r, .ref vv]) ⟨hx, hb, hml, hown, hts⟩ (c_Choice_init_n l D dT _ ad22 oad22 1 1) ⟨callB_of 3 hts (gI gd_up gd_c q307) rfl rfl rfl (ht _ q16) (ht _ q305) hd_Choice_init ⟨Nat.le_of_ble_eq_true rfl, Nat.le_of_ble_eq_true rfl⟩, rfl, ht _ q306⟩ (z_preS hK) rfl rfl hl.1 rfl (lv_room (Nat.le_of_ble_eq_true rfl)) d_V_simple_69 ⟨(Nat.le_of_ble_eq_true rfl), (Nat.le_of_ble_eq_true rfl)⟩) hS (fun q9 h9 => by rw [show q9 = ad22 from h9]; exact hAad22) (fun v24 H locs hv23 hz25 hf26 hS => ?_)
    obtain ⟨rfl, oad22⟩ := hv23
    have oad22 : va_at D cls (ad22, .inr (4, [.int 1, .int 2, .int 1, .null])) H := oad22
    have hN := hN.call hz25 hf26 (fun x hx h9 => by have h8 : x = ad22 := h9; omega)
    refine W.eq (g2 := F0 m 72 ls [.ref ad22, .int r, .ref vv]) rfl ?_
    have hwx : wty tb (.pow (.var 2) 1) 0 1 := wty_var hO (by decide)
    have hrx : rv D dT Bq H (.pow (.var 2) 1) ad22 := rv_var.mpr ⟨oad22, (fun h9 => absurd (hBs _ h9) (Nat.not_lt.mpr hgad22))⟩
    refine z_callQ (va_runV (C := "ValueTrees") (As := [.int r, .ref ad22]) (rest := []) ⟨hx, hb, hml, hown, hts⟩ (c_V_keep_r l D dT _ Bq vv rg li ed tb tc RV (hC.up hN) hV r (.pow (.var 2) 1) 1 ad22 hwx hrx (by rw [l_var]; decide)) ⟨callB_of 2 hts (gI gd_up gd_c q264) rfl rfl rfl (ht _ q1) (ht _ q261) hd_V_keep ⟨Nat.le_of_ble_eq_true rfl, Nat.le_of_ble_eq_true rfl⟩, ht _ q263, ht _ qs6⟩ (z_preV hK (va_recv hK.1 (z_1 (hvv.grew hN.2)) (ci := 0) (q0 := 0) rfl rfl)) rfl rfl hl.1 rfl (lv_room (Nat.le_of_ble_eq_true rfl)) d_V_simple_72 ⟨(Nat.le_of_ble_eq_true rfl), (Nat.le_of_ble_eq_true rfl)⟩) hS (fun _ h9 => Or.inl h9) (fun v28 H locs hv27 hz29 hf30 hS => ?_)
    obtain ⟨rfl, hC⟩ := hv27
    refine W.eq (g2 := F0 m 75 ls [.int ((kp RV r (some (.pow (.var 2) 1))).1)]) rfl ?_
    exact z_iretQ hx hb hr hlocks d_V_simple_75 hS (Nat.le_of_ble_eq_true rfl) (Nat.le_of_ble_eq_true rfl) (by rw [show o_simple wh9 = (some (.pow (.var 2) 1)) from (by unfold o_simple; rw [c21]; rfl)]; exact ⟨rfl, hC⟩)
  refine lv_tableOut (tgt := 76) hx hb d_V_simple_1 ?_ (by decide) ?_
  · have key : ∀ (z : Int32) (n : Int32), ¬ z = n → ¬ z.toInt = n.toInt := fun z n h q => h (Int32.toInt_inj.mp q)
    have gc1 := key _ _ c1; rw [show (0 : Int32).toInt = 0 from by decide] at gc1
    have gc11 := key _ _ c11; rw [show (1 : Int32).toInt = 1 from by decide] at gc11
    have gc21 := key _ _ c21; rw [show (2 : Int32).toInt = 2 from by decide] at gc21
    omega
  · refine lv_iconst (v := (-1)) hx hb d_V_simple_76 (by decide) ?_
    exact z_iretQ hx hb hr hlocks d_V_simple_77 hS (Nat.le_of_ble_eq_true rfl) (Nat.le_of_ble_eq_true rfl) (by rw [show o_simple wh9 = none from (by unfold o_simple; rw [if_neg c1]; rw [if_neg c11]; rw [if_neg c21])]; exact ⟨rfl, hC⟩)
abbrev b_V_empty : ByteArray := prog_1_method_8_code
abbrev y_V_empty : MethodName := ⟨"ValueTrees", "empty", "(II)I"⟩
abbrev w_V_empty : List Cond := .code y_V_empty b_V_empty 3 (Option.some .int) :: gt
theorem hd_V_empty : (y_V_empty).cls ≠ "java/lang/invoke/MethodHandle" ∧ (y_V_empty).cls ≠ "java/lang/invoke/VarHandle" ∧ (parseMethodDescriptor (y_V_empty).desc).map (fun d => d.parameters.length) = some 2 := by decide +kernel
theorem d_V_empty_0 : decode b_V_empty 0 = .ok (.aload_n 0, 1) := by decide +kernel
theorem d_V_empty_1 : decode b_V_empty 1 = .ok (.iload_n 2, 1) := by decide +kernel
theorem d_V_empty_2 : decode b_V_empty 2 = .ok (.invokevirtual 109, 3) := by decide +kernel
theorem d_V_empty_5 : decode b_V_empty 5 = .ok (.tableswitch 92 10 16 #[43, 59, 73, 92, 92, 73, 73], 43) := by decide +kernel
theorem d_V_empty_48 : decode b_V_empty 48 = .ok (.aload_n 0, 1) := by decide +kernel
theorem d_V_empty_49 : decode b_V_empty 49 = .ok (.iload_n 1, 1) := by decide +kernel
theorem d_V_empty_50 : decode b_V_empty 50 = .ok (.new 104, 3) := by decide +kernel
theorem d_V_empty_53 : decode b_V_empty 53 = .ok (.dup, 1) := by decide +kernel
theorem d_V_empty_54 : decode b_V_empty 54 = .ok (.iload_n 2, 1) := by decide +kernel
theorem d_V_empty_55 : decode b_V_empty 55 = .ok (.iconst 0, 1) := by decide +kernel
theorem d_V_empty_56 : decode b_V_empty 56 = .ok (.aconst_null, 1) := by decide +kernel
theorem d_V_empty_57 : decode b_V_empty 57 = .ok (.invokespecial 106, 3) := by decide +kernel
theorem d_V_empty_60 : decode b_V_empty 60 = .ok (.invokevirtual 73, 3) := by decide +kernel
theorem d_V_empty_63 : decode b_V_empty 63 = .ok (.ireturn, 1) := by decide +kernel
theorem d_V_empty_64 : decode b_V_empty 64 = .ok (.aload_n 0, 1) := by decide +kernel
theorem d_V_empty_65 : decode b_V_empty 65 = .ok (.iload_n 1, 1) := by decide +kernel
theorem d_V_empty_66 : decode b_V_empty 66 = .ok (.new 113, 3) := by decide +kernel
theorem d_V_empty_69 : decode b_V_empty 69 = .ok (.dup, 1) := by decide +kernel
theorem d_V_empty_70 : decode b_V_empty 70 = .ok (.iload_n 2, 1) := by decide +kernel
theorem d_V_empty_71 : decode b_V_empty 71 = .ok (.invokespecial 115, 3) := by decide +kernel
theorem d_V_empty_74 : decode b_V_empty 74 = .ok (.invokevirtual 73, 3) := by decide +kernel
theorem d_V_empty_77 : decode b_V_empty 77 = .ok (.ireturn, 1) := by decide +kernel
theorem d_V_empty_78 : decode b_V_empty 78 = .ok (.aload_n 0, 1) := by decide +kernel
theorem d_V_empty_79 : decode b_V_empty 79 = .ok (.iload_n 1, 1) := by decide +kernel
theorem d_V_empty_80 : decode b_V_empty 80 = .ok (.new 118, 3) := by decide +kernel
theorem d_V_empty_83 : decode b_V_empty 83 = .ok (.dup, 1) := by decide +kernel
theorem d_V_empty_84 : decode b_V_empty 84 = .ok (.iload_n 2, 1) := by decide +kernel
theorem d_V_empty_85 : decode b_V_empty 85 = .ok (.iconst 5, 1) := by decide +kernel
theorem d_V_empty_86 : decode b_V_empty 86 = .ok (.iconst 0, 1) := by decide +kernel
theorem d_V_empty_87 : decode b_V_empty 87 = .ok (.anewarray 120, 3) := by decide +kernel
theorem d_V_empty_90 : decode b_V_empty 90 = .ok (.invokespecial 122, 3) := by decide +kernel
theorem d_V_empty_93 : decode b_V_empty 93 = .ok (.invokevirtual 73, 3) := by decide +kernel
theorem d_V_empty_96 : decode b_V_empty 96 = .ok (.ireturn, 1) := by decide +kernel
theorem d_V_empty_97 : decode b_V_empty 97 = .ok (.iconst (-1), 1) := by decide +kernel
theorem d_V_empty_98 : decode b_V_empty 98 = .ok (.ireturn, 1) := by decide +kernel
set_option maxHeartbeats 4000000 in
set_option maxRecDepth 100000 in
theorem p_V_empty (l : Launch) (D : va_G) (dT : Nat → ClassId) (H : Heap) (Bq : Nat → Prop) (vv rg li ed : Nat) (tb : Nat → TR) (tc : Nat) (RV : Nat → Option VT) (hC : cI D dT Bq vv rg li ed tb tc RV H) (hV : vOK tb tc RV) (r t : Int32) : Met l y_V_empty w_V_empty ({ frames := 5, cells := 2, slots := 5, locals := 107 }) (z_P D dT [.ref vv, .int r, .int t] H) (z_Q (fun q => q = rg ∨ H.size ≤ q) (fun v H1 => v = some (.int (kp RV r (o_empty tb tc t)).1) ∧ cI D dT Bq vv rg li ed tb tc (kp RV r (o_empty tb tc t)).2 H1)) 2 5 (fun q => q = rg ∨ H.size ≤ q) := by
  obtain ⟨⟨hBs, hBr, hBl, hBe, hBv, hrl, hre, hle⟩, hvv, hCR, hCT⟩ := id hC
  have hO := hV.1
  have htc := hO.1
  have htc10 := hO.2.1
  refine Met.ofW (cc := b_V_empty) (maxL := 3) (ret := (Option.some .int)) (by decide) rfl ?_
  intro p e s m args below meth c s₁ B hml hv
  obtain ⟨rfl, rfl, hK⟩ := hv
  have hx := B.exec
  have hb := B.bytes
  have hr := B.returns
  have hts := atoms_spec (ws := w_V_empty) B.pre
  have ht : ∀ w9 ∈ gt, w9.before [.ref vv, .int r, .int t].toArray s = true := fun w9 h => hts w9 (List.mem_cons_of_mem _ h)
  have hown : s.vm.findClass "ValueTrees" = some m.cls := findClass_of_methodNamed B.named
  have hlocks := B.notSynchronized
  have hS : va_S (fun q => q = rg ∨ s.heap.size ≤ q) s.heap s.heap [] := va_S.rf
  have hl := lv_entry ([.ref vv, .int r, .int t]) (n := 3) (Nat.le_of_ble_eq_true rfl)
  rw [lg_entry_eq]
  generalize (lg_sl ([.ref vv, .int r, .int t]) ++ List.replicate (3 - (lg_sl ([.ref vv, .int r, .int t])).length) Slot.unset).toArray = ls at hl ⊢
  have hl : lv_has ls 3 [(0, .ref vv), (1, .int r), (2, .int t)] := hl
  have hN : nU s.heap s.heap := nU.rf
  refine lv_aload_n hx hb d_V_empty_0 rfl (lv_at hl 0 rfl) ?_
  refine lv_iload_n hx hb d_V_empty_1 rfl (lv_at hl 2 rfl) ?_
  refine z_callR (va_runV (C := "ValueTrees") (As := [.int t]) (rest := []) ⟨hx, hb, hml, hown, hts⟩ (c_V_wordOf l D dT _ Bq vv rg li ed tb tc RV (hC.up hN) hV t) ⟨callB_of 1 hts (gI gd_up gd_c q327) rfl rfl rfl (ht _ q1) (ht _ q324) hd_V_wordOf ⟨Nat.le_of_ble_eq_true rfl, Nat.le_of_ble_eq_true rfl⟩, ht _ q326, ht _ qs8⟩ (z_preV hK (va_recv hK.1 (z_1 (hvv.grew hN.2)) (ci := 0) (q0 := 0) rfl rfl)) rfl rfl hl.1 rfl (lv_room (Nat.le_of_ble_eq_true rfl)) d_V_empty_2 ⟨Nat.zero_le _, Nat.zero_le _⟩) (fun v2 hv1 => ?_)
  subst hv1
  cases hq9 : tN tc t with
  | none =>
    rw [show a_word tb tc t = -1 by unfold a_word; rw [hq9]]
    refine lv_tableOut (tgt := 97) hx hb d_V_empty_5 (by rw [show ((-1) : Int32) = (-1) from rfl]; decide) (by decide) ?_
    refine lv_iconst (v := (-1)) hx hb d_V_empty_97 (by decide) ?_
    exact z_iretQ hx hb hr hlocks d_V_empty_98 hS (Nat.le_of_ble_eq_true rfl) (Nat.le_of_ble_eq_true rfl) (by rw [show o_empty tb tc t = none from (by unfold o_empty; rw [hq9])]; exact ⟨rfl, hC⟩)
  | some k =>
    obtain ⟨rfl, hk⟩ := tN_some hq9 htc
    rw [a_word_ev hO hk]
    have hwl := (hO.2.2 k hk).1
    rcases (show tW (tb k) = 0 ∨ tW (tb k) = 1 ∨ tW (tb k) = 2 ∨ tW (tb k) = 3 ∨ tW (tb k) = 4 ∨ tW (tb k) = 5 ∨ tW (tb k) = 6 ∨ tW (tb k) = 7 ∨ tW (tb k) = 8 ∨ tW (tb k) = 9 ∨ tW (tb k) = 10 ∨ tW (tb k) = 11 ∨ tW (tb k) = 12 ∨ tW (tb k) = 13 ∨ tW (tb k) = 14 ∨ tW (tb k) = 15 ∨ tW (tb k) = 16 ∨ tW (tb k) = 17 ∨ tW (tb k) = 18 by omega) with hwk | hwk | hwk | hwk | hwk | hwk | hwk | hwk | hwk | hwk | hwk | hwk | hwk | hwk | hwk | hwk | hwk | hwk | hwk
    · refine lv_tableOut (tgt := 97) hx hb d_V_empty_5 (by rw [show (nI (tW (tb k)) : Int32) = 0 from (by rw [hwk]; rfl)]; decide) (by decide) ?_
      refine lv_iconst (v := (-1)) hx hb d_V_empty_97 (by decide) ?_
      exact z_iretQ hx hb hr hlocks d_V_empty_98 hS (Nat.le_of_ble_eq_true rfl) (Nat.le_of_ble_eq_true rfl) (by rw [show o_empty tb tc (nI k) = none from (by unfold o_empty; rw [hq9]; dsimp only; rw [if_neg (by omega), if_neg (by omega), if_neg (by omega)])]; exact ⟨rfl, hC⟩)
    · refine lv_tableOut (tgt := 97) hx hb d_V_empty_5 (by rw [show (nI (tW (tb k)) : Int32) = 1 from (by rw [hwk]; rfl)]; decide) (by decide) ?_
      refine lv_iconst (v := (-1)) hx hb d_V_empty_97 (by decide) ?_
      exact z_iretQ hx hb hr hlocks d_V_empty_98 hS (Nat.le_of_ble_eq_true rfl) (Nat.le_of_ble_eq_true rfl) (by rw [show o_empty tb tc (nI k) = none from (by unfold o_empty; rw [hq9]; dsimp only; rw [if_neg (by omega), if_neg (by omega), if_neg (by omega)])]; exact ⟨rfl, hC⟩)
    · refine lv_tableOut (tgt := 97) hx hb d_V_empty_5 (by rw [show (nI (tW (tb k)) : Int32) = 2 from (by rw [hwk]; rfl)]; decide) (by decide) ?_
      refine lv_iconst (v := (-1)) hx hb d_V_empty_97 (by decide) ?_
      exact z_iretQ hx hb hr hlocks d_V_empty_98 hS (Nat.le_of_ble_eq_true rfl) (Nat.le_of_ble_eq_true rfl) (by rw [show o_empty tb tc (nI k) = none from (by unfold o_empty; rw [hq9]; dsimp only; rw [if_neg (by omega), if_neg (by omega), if_neg (by omega)])]; exact ⟨rfl, hC⟩)
    · refine lv_tableOut (tgt := 97) hx hb d_V_empty_5 (by rw [show (nI (tW (tb k)) : Int32) = 3 from (by rw [hwk]; rfl)]; decide) (by decide) ?_
      refine lv_iconst (v := (-1)) hx hb d_V_empty_97 (by decide) ?_
      exact z_iretQ hx hb hr hlocks d_V_empty_98 hS (Nat.le_of_ble_eq_true rfl) (Nat.le_of_ble_eq_true rfl) (by rw [show o_empty tb tc (nI k) = none from (by unfold o_empty; rw [hq9]; dsimp only; rw [if_neg (by omega), if_neg (by omega), if_neg (by omega)])]; exact ⟨rfl, hC⟩)
    · refine lv_tableOut (tgt := 97) hx hb d_V_empty_5 (by rw [show (nI (tW (tb k)) : Int32) = 4 from (by rw [hwk]; rfl)]; decide) (by decide) ?_
      refine lv_iconst (v := (-1)) hx hb d_V_empty_97 (by decide) ?_
      exact z_iretQ hx hb hr hlocks d_V_empty_98 hS (Nat.le_of_ble_eq_true rfl) (Nat.le_of_ble_eq_true rfl) (by rw [show o_empty tb tc (nI k) = none from (by unfold o_empty; rw [hq9]; dsimp only; rw [if_neg (by omega), if_neg (by omega), if_neg (by omega)])]; exact ⟨rfl, hC⟩)
    · refine lv_tableOut (tgt := 97) hx hb d_V_empty_5 (by rw [show (nI (tW (tb k)) : Int32) = 5 from (by rw [hwk]; rfl)]; decide) (by decide) ?_
      refine lv_iconst (v := (-1)) hx hb d_V_empty_97 (by decide) ?_
      exact z_iretQ hx hb hr hlocks d_V_empty_98 hS (Nat.le_of_ble_eq_true rfl) (Nat.le_of_ble_eq_true rfl) (by rw [show o_empty tb tc (nI k) = none from (by unfold o_empty; rw [hq9]; dsimp only; rw [if_neg (by omega), if_neg (by omega), if_neg (by omega)])]; exact ⟨rfl, hC⟩)
    · refine lv_tableOut (tgt := 97) hx hb d_V_empty_5 (by rw [show (nI (tW (tb k)) : Int32) = 6 from (by rw [hwk]; rfl)]; decide) (by decide) ?_
      refine lv_iconst (v := (-1)) hx hb d_V_empty_97 (by decide) ?_
      exact z_iretQ hx hb hr hlocks d_V_empty_98 hS (Nat.le_of_ble_eq_true rfl) (Nat.le_of_ble_eq_true rfl) (by rw [show o_empty tb tc (nI k) = none from (by unfold o_empty; rw [hq9]; dsimp only; rw [if_neg (by omega), if_neg (by omega), if_neg (by omega)])]; exact ⟨rfl, hC⟩)
    · refine lv_tableOut (tgt := 97) hx hb d_V_empty_5 (by rw [show (nI (tW (tb k)) : Int32) = 7 from (by rw [hwk]; rfl)]; decide) (by decide) ?_
      refine lv_iconst (v := (-1)) hx hb d_V_empty_97 (by decide) ?_
      exact z_iretQ hx hb hr hlocks d_V_empty_98 hS (Nat.le_of_ble_eq_true rfl) (Nat.le_of_ble_eq_true rfl) (by rw [show o_empty tb tc (nI k) = none from (by unfold o_empty; rw [hq9]; dsimp only; rw [if_neg (by omega), if_neg (by omega), if_neg (by omega)])]; exact ⟨rfl, hC⟩)
    · refine lv_tableOut (tgt := 97) hx hb d_V_empty_5 (by rw [show (nI (tW (tb k)) : Int32) = 8 from (by rw [hwk]; rfl)]; decide) (by decide) ?_
      refine lv_iconst (v := (-1)) hx hb d_V_empty_97 (by decide) ?_
      exact z_iretQ hx hb hr hlocks d_V_empty_98 hS (Nat.le_of_ble_eq_true rfl) (Nat.le_of_ble_eq_true rfl) (by rw [show o_empty tb tc (nI k) = none from (by unfold o_empty; rw [hq9]; dsimp only; rw [if_neg (by omega), if_neg (by omega), if_neg (by omega)])]; exact ⟨rfl, hC⟩)
    · refine lv_tableOut (tgt := 97) hx hb d_V_empty_5 (by rw [show (nI (tW (tb k)) : Int32) = 9 from (by rw [hwk]; rfl)]; decide) (by decide) ?_
      refine lv_iconst (v := (-1)) hx hb d_V_empty_97 (by decide) ?_
      exact z_iretQ hx hb hr hlocks d_V_empty_98 hS (Nat.le_of_ble_eq_true rfl) (Nat.le_of_ble_eq_true rfl) (by rw [show o_empty tb tc (nI k) = none from (by unfold o_empty; rw [hq9]; dsimp only; rw [if_neg (by omega), if_neg (by omega), if_neg (by omega)])]; exact ⟨rfl, hC⟩)
    · refine lv_tableIn (tgt := 48) hx hb d_V_empty_5 (by rw [show (nI (tW (tb k)) : Int32) = 10 from (by rw [hwk]; rfl)]; decide) (by rw [show (nI (tW (tb k)) : Int32) = 10 from (by rw [hwk]; rfl)]; decide) (by rw [show (nI (tW (tb k)) : Int32) = 10 from (by rw [hwk]; rfl)]; rfl) (by decide) ?_
      refine lv_aload_n hx hb d_V_empty_48 rfl (lv_at hl 0 rfl) ?_
      refine lv_iload_n hx hb d_V_empty_49 rfl (lv_at hl 1 rfl) ?_
      have hSp := hS
      refine z_newo (ci := 4) hx hb ht in_Choice ty_Choice tyk_Choice hown (ht _ q303) (ht _ q304) (ht _ q16) hK hS rfl fs_Choice (Nat.le_of_ble_eq_true rfl) (Nat.le_of_ble_eq_true rfl) d_V_empty_50 (fun ad3 H hqad3 hzad3 oad3 hoad3 hS => ?_)
      have hgad3 : s.heap.size ≤ ad3 := by rw [hqad3]; exact hSp.1
      have hAad3 : (fun q => q = rg ∨ s.heap.size ≤ q) ad3 := (Or.inr hgad3)
      have hgbad3 := Nat.le_trans hN.1 (Nat.le_of_eq hqad3.symm)
      have hN := hN.grew hzad3 hoad3
      refine lv_dup hx hb d_V_empty_53 rfl ?_
      refine lv_iload_n hx hb d_V_empty_54 rfl (lv_at hl 2 rfl) ?_
      refine lv_iconst (v := 0) hx hb d_V_empty_55 (by decide) ?_
      refine lv_null hx hb d_V_empty_56 ?_
      refine z_callQ (va_runI (As := [.int (nI k), .int 0, .null]) (rest := [.ref ad3, .int r, .ref vv]) ⟨hx, hb, hml, hown, hts⟩ (c_Choice_init_n l D dT _ ad3 oad3 (nI k) 0) ⟨callB_of 3 hts (gI gd_up gd_c q307) rfl rfl rfl (ht _ q16) (ht _ q305) hd_Choice_init ⟨Nat.le_of_ble_eq_true rfl, Nat.le_of_ble_eq_true rfl⟩, rfl, ht _ q306⟩ (z_preS hK) rfl rfl hl.1 rfl (lv_room (Nat.le_of_ble_eq_true rfl)) d_V_empty_57 ⟨(Nat.le_of_ble_eq_true rfl), (Nat.le_of_ble_eq_true rfl)⟩) hS (fun q9 h9 => by rw [show q9 = ad3 from h9]; exact hAad3) (fun v5 H locs hv4 hz6 hf7 hS => ?_)
      obtain ⟨rfl, oad3⟩ := hv4
      have oad3 : va_at D cls (ad3, .inr (4, [.int (nI k), .int 2, .int 0, .null])) H := oad3
      have hN := hN.call hz6 hf7 (fun x hx h9 => by have h8 : x = ad3 := h9; omega)
      refine W.eq (g2 := F0 m 60 ls [.ref ad3, .int r, .ref vv]) rfl ?_
      have hwx : wty tb (.pow (.var 1) k) 0 k := ⟨rfl, rfl, rfl, Or.inr (Or.inr ⟨hwk, rfl⟩)⟩
      have hrx : rv D dT Bq H (.pow (.var 1) k) ad3 := rv_var.mpr ⟨oad3, (fun h9 => absurd (hBs _ h9) (Nat.not_lt.mpr hgad3))⟩
      refine z_callQ (va_runV (C := "ValueTrees") (As := [.int r, .ref ad3]) (rest := []) ⟨hx, hb, hml, hown, hts⟩ (c_V_keep_r l D dT _ Bq vv rg li ed tb tc RV (hC.up hN) hV r (.pow (.var 1) k) k ad3 hwx hrx (by rw [l_var]; decide)) ⟨callB_of 2 hts (gI gd_up gd_c q264) rfl rfl rfl (ht _ q1) (ht _ q261) hd_V_keep ⟨Nat.le_of_ble_eq_true rfl, Nat.le_of_ble_eq_true rfl⟩, ht _ q263, ht _ qs6⟩ (z_preV hK (va_recv hK.1 (z_1 (hvv.grew hN.2)) (ci := 0) (q0 := 0) rfl rfl)) rfl rfl hl.1 rfl (lv_room (Nat.le_of_ble_eq_true rfl)) d_V_empty_60 ⟨(Nat.le_of_ble_eq_true rfl), (Nat.le_of_ble_eq_true rfl)⟩) hS (fun _ h9 => Or.inl h9) (fun v9 H locs hv8 hz10 hf11 hS => ?_)
      obtain ⟨rfl, hC⟩ := hv8
      refine W.eq (g2 := F0 m 63 ls [.int ((kp RV r (some (.pow (.var 1) k))).1)]) rfl ?_
      exact z_iretQ hx hb hr hlocks d_V_empty_63 hS (Nat.le_of_ble_eq_true rfl) (Nat.le_of_ble_eq_true rfl) (by rw [show o_empty tb tc (nI k) = some (.pow (.var 1) k) from (by unfold o_empty; rw [hq9]; dsimp only; rw [if_pos hwk])]; exact ⟨rfl, hC⟩)
    · refine lv_tableIn (tgt := 64) hx hb d_V_empty_5 (by rw [show (nI (tW (tb k)) : Int32) = 11 from (by rw [hwk]; rfl)]; decide) (by rw [show (nI (tW (tb k)) : Int32) = 11 from (by rw [hwk]; rfl)]; decide) (by rw [show (nI (tW (tb k)) : Int32) = 11 from (by rw [hwk]; rfl)]; rfl) (by decide) ?_
      refine lv_aload_n hx hb d_V_empty_64 rfl (lv_at hl 0 rfl) ?_
      refine lv_iload_n hx hb d_V_empty_65 rfl (lv_at hl 1 rfl) ?_
      have hSp := hS
      refine z_newo (ci := 6) hx hb ht in_Chain ty_Chain tyk_Chain hown (ht _ q328) (ht _ q329) (ht _ q17) hK hS rfl fs_Chain (Nat.le_of_ble_eq_true rfl) (Nat.le_of_ble_eq_true rfl) d_V_empty_66 (fun ad12 H hqad12 hzad12 oad12 hoad12 hS => ?_)
      have hgad12 : s.heap.size ≤ ad12 := by rw [hqad12]; exact hSp.1
      have hAad12 : (fun q => q = rg ∨ s.heap.size ≤ q) ad12 := (Or.inr hgad12)
      have hgbad12 := Nat.le_trans hN.1 (Nat.le_of_eq hqad12.symm)
      have hN := hN.grew hzad12 hoad12
      refine lv_dup hx hb d_V_empty_69 rfl ?_
      refine lv_iload_n hx hb d_V_empty_70 rfl (lv_at hl 2 rfl) ?_
      refine z_callQ (va_runI (As := [.int (nI k)]) (rest := [.ref ad12, .int r, .ref vv]) ⟨hx, hb, hml, hown, hts⟩ (c_Chain_init1 l D dT _ ad12 oad12 (nI k)) ⟨callB_of 1 hts (gI gd_up gd_c q332) rfl rfl rfl (ht _ q17) (ht _ q330) hd_Chain_init1 ⟨Nat.le_of_ble_eq_true rfl, Nat.le_of_ble_eq_true rfl⟩, rfl, ht _ q331⟩ (z_preS hK) rfl rfl hl.1 rfl (lv_room (Nat.le_of_ble_eq_true rfl)) d_V_empty_71 ⟨(Nat.le_of_ble_eq_true rfl), (Nat.le_of_ble_eq_true rfl)⟩) hS (fun q9 h9 => by rw [show q9 = ad12 from h9]; exact hAad12) (fun v14 H locs hv13 hz15 hf16 hS => ?_)
      obtain ⟨rfl, oad12⟩ := hv13
      have oad12 : va_at D cls (ad12, .inr (6, [.int (nI k), .int 5, .null, .null, .int 0])) H := oad12
      have hN := hN.call hz15 hf16 (fun x hx h9 => by have h8 : x = ad12 := h9; omega)
      refine W.eq (g2 := F0 m 74 ls [.ref ad12, .int r, .ref vv]) rfl ?_
      have hwx : wty tb (.pow (.intCast 0) k) 0 k := ⟨rfl, rfl, Or.inl ⟨rfl, hwk⟩⟩
      have hrx : rv D dT Bq H (.pow (.intCast 0) k) ad12 := rv_nil.mpr ⟨oad12, (fun h9 => absurd (hBs _ h9) (Nat.not_lt.mpr hgad12))⟩
      refine z_callQ (va_runV (C := "ValueTrees") (As := [.int r, .ref ad12]) (rest := []) ⟨hx, hb, hml, hown, hts⟩ (c_V_keep_r l D dT _ Bq vv rg li ed tb tc RV (hC.up hN) hV r (.pow (.intCast 0) k) k ad12 hwx hrx (by rw [l_nil]; decide)) ⟨callB_of 2 hts (gI gd_up gd_c q264) rfl rfl rfl (ht _ q1) (ht _ q261) hd_V_keep ⟨Nat.le_of_ble_eq_true rfl, Nat.le_of_ble_eq_true rfl⟩, ht _ q263, ht _ qs6⟩ (z_preV hK (va_recv hK.1 (z_1 (hvv.grew hN.2)) (ci := 0) (q0 := 0) rfl rfl)) rfl rfl hl.1 rfl (lv_room (Nat.le_of_ble_eq_true rfl)) d_V_empty_74 ⟨(Nat.le_of_ble_eq_true rfl), (Nat.le_of_ble_eq_true rfl)⟩) hS (fun _ h9 => Or.inl h9) (fun v18 H locs hv17 hz19 hf20 hS => ?_)
      obtain ⟨rfl, hC⟩ := hv17
      refine W.eq (g2 := F0 m 77 ls [.int ((kp RV r (some (.pow (.intCast 0) k))).1)]) rfl ?_
      exact z_iretQ hx hb hr hlocks d_V_empty_77 hS (Nat.le_of_ble_eq_true rfl) (Nat.le_of_ble_eq_true rfl) (by rw [show o_empty tb tc (nI k) = some (.pow (.intCast 0) k) from (by unfold o_empty; rw [hq9]; dsimp only; rw [if_neg (by omega), if_pos hwk])]; exact ⟨rfl, hC⟩)
    · refine lv_tableIn (tgt := 78) hx hb d_V_empty_5 (by rw [show (nI (tW (tb k)) : Int32) = 12 from (by rw [hwk]; rfl)]; decide) (by rw [show (nI (tW (tb k)) : Int32) = 12 from (by rw [hwk]; rfl)]; decide) (by rw [show (nI (tW (tb k)) : Int32) = 12 from (by rw [hwk]; rfl)]; rfl) (by decide) ?_
      refine lv_aload_n hx hb d_V_empty_78 rfl (lv_at hl 0 rfl) ?_
      refine lv_iload_n hx hb d_V_empty_79 rfl (lv_at hl 1 rfl) ?_
      have hSp := hS
      refine z_newo (ci := 7) hx hb ht in_Tree ty_Tree tyk_Tree hown (ht _ q349) (ht _ q350) (ht _ q18) hK hS rfl fs_Tree (Nat.le_of_ble_eq_true rfl) (Nat.le_of_ble_eq_true rfl) d_V_empty_80 (fun ad21 H hqad21 hzad21 oad21 hoad21 hS => ?_)
      have hgad21 : s.heap.size ≤ ad21 := by rw [hqad21]; exact hSp.1
      have hAad21 : (fun q => q = rg ∨ s.heap.size ≤ q) ad21 := (Or.inr hgad21)
      have hgbad21 := Nat.le_trans hN.1 (Nat.le_of_eq hqad21.symm)
      have hN := hN.grew hzad21 hoad21
      refine lv_dup hx hb d_V_empty_83 rfl ?_
      refine lv_iload_n hx hb d_V_empty_84 rfl (lv_at hl 2 rfl) ?_
      refine lv_iconst (v := 5) hx hb d_V_empty_85 (by decide) ?_
      refine lv_iconst (v := 0) hx hb d_V_empty_86 (by decide) ?_
      have hSp := hS
      refine z_newq (C := "ValueTrees$Entry") hx hb hown (ht _ q351) hK (List.mem_of_getElem? (i := 2) rfl) 4 rfl hS 0 rfl (by decide) (Nat.le_of_ble_eq_true rfl) (Nat.le_of_ble_eq_true rfl) d_V_empty_87 (fun ad22 H hqad22 hzad22 oad22 hoad22 hS => ?_)
      have nead21ad22 : ad21 ≠ ad22 := by rw [hqad22]; exact Nat.ne_of_lt oad21.lt
      have oad21 := oad21.grew hoad22
      have hgad22 : s.heap.size ≤ ad22 := by rw [hqad22]; exact hSp.1
      have hAad22 : (fun q => q = rg ∨ s.heap.size ≤ q) ad22 := (Or.inr hgad22)
      have hgbad22 := Nat.le_trans hN.1 (Nat.le_of_eq hqad22.symm)
      have hN := hN.grew hzad22 hoad22
      refine z_callQ (va_runI (As := [.int (nI k), .int 5, .ref ad22]) (rest := [.ref ad21, .int r, .ref vv]) ⟨hx, hb, hml, hown, hts⟩ (c_Tree_init l D dT _ ad21 oad21 (nI k) 5 ad22) ⟨callB_of 3 hts (gI gd_up gd_c q355) rfl rfl rfl (ht _ q18) (ht _ q353) hd_Tree_init ⟨Nat.le_of_ble_eq_true rfl, Nat.le_of_ble_eq_true rfl⟩, rfl, ht _ q354⟩ (z_preS hK) rfl rfl hl.1 rfl (lv_room (Nat.le_of_ble_eq_true rfl)) d_V_empty_90 ⟨(Nat.le_of_ble_eq_true rfl), (Nat.le_of_ble_eq_true rfl)⟩) hS (fun q9 h9 => by rw [show q9 = ad21 from h9]; exact hAad21) (fun v24 H locs hv23 hz25 hf26 hS => ?_)
      obtain ⟨rfl, oad21⟩ := hv23
      have oad21 : va_at D cls (ad21, .inr (7, [.int (nI k), .int 5, .ref ad22])) H := oad21
      have oad22 := oad22.kept (hf26 _ oad22.lt (fun h9 => (Ne.symm nead21ad22) h9))
      have hN := hN.call hz25 hf26 (fun x hx h9 => by have h8 : x = ad21 := h9; omega)
      refine W.eq (g2 := F0 m 93 ls [.ref ad21, .int r, .ref vv]) rfl ?_
      have hwx : wty tb (.pow (.neg (.intCast 0)) k) 0 k := ⟨rfl, rfl, rfl, Or.inl ⟨hwk, Or.inr (Or.inl rfl)⟩⟩
      have hrx : rv D dT Bq H (.pow (.neg (.intCast 0)) k) ad21 := rv_neg.mpr ⟨ad22, _, oad21, (fun h9 => absurd (hBs _ h9) (Nat.not_lt.mpr hgad21)), oad22, (fun h9 => absurd (hBs _ h9) (Nat.not_lt.mpr hgad22)), rc_nil⟩
      refine z_callQ (va_runV (C := "ValueTrees") (As := [.int r, .ref ad21]) (rest := []) ⟨hx, hb, hml, hown, hts⟩ (c_V_keep_r l D dT _ Bq vv rg li ed tb tc RV (hC.up hN) hV r (.pow (.neg (.intCast 0)) k) k ad21 hwx hrx (by rw [l_neg]; decide)) ⟨callB_of 2 hts (gI gd_up gd_c q264) rfl rfl rfl (ht _ q1) (ht _ q261) hd_V_keep ⟨Nat.le_of_ble_eq_true rfl, Nat.le_of_ble_eq_true rfl⟩, ht _ q263, ht _ qs6⟩ (z_preV hK (va_recv hK.1 (z_1 (hvv.grew hN.2)) (ci := 0) (q0 := 0) rfl rfl)) rfl rfl hl.1 rfl (lv_room (Nat.le_of_ble_eq_true rfl)) d_V_empty_93 ⟨(Nat.le_of_ble_eq_true rfl), (Nat.le_of_ble_eq_true rfl)⟩) hS (fun _ h9 => Or.inl h9) (fun v28 H locs hv27 hz29 hf30 hS => ?_)
      obtain ⟨rfl, hC⟩ := hv27
      refine W.eq (g2 := F0 m 96 ls [.int ((kp RV r (some (.pow (.neg (.intCast 0)) k))).1)]) rfl ?_
      exact z_iretQ hx hb hr hlocks d_V_empty_96 hS (Nat.le_of_ble_eq_true rfl) (Nat.le_of_ble_eq_true rfl) (by rw [show o_empty tb tc (nI k) = some (.pow (.neg (.intCast 0)) k) from (by unfold o_empty; rw [hq9]; dsimp only; rw [if_neg (by omega), if_neg (by omega), if_pos (by omega)])]; exact ⟨rfl, hC⟩)
    · refine lv_tableIn (tgt := 97) hx hb d_V_empty_5 (by rw [show (nI (tW (tb k)) : Int32) = 13 from (by rw [hwk]; rfl)]; decide) (by rw [show (nI (tW (tb k)) : Int32) = 13 from (by rw [hwk]; rfl)]; decide) (by rw [show (nI (tW (tb k)) : Int32) = 13 from (by rw [hwk]; rfl)]; rfl) (by decide) ?_
      refine lv_iconst (v := (-1)) hx hb d_V_empty_97 (by decide) ?_
      exact z_iretQ hx hb hr hlocks d_V_empty_98 hS (Nat.le_of_ble_eq_true rfl) (Nat.le_of_ble_eq_true rfl) (by rw [show o_empty tb tc (nI k) = none from (by unfold o_empty; rw [hq9]; dsimp only; rw [if_neg (by omega), if_neg (by omega), if_neg (by omega)])]; exact ⟨rfl, hC⟩)
    · refine lv_tableIn (tgt := 97) hx hb d_V_empty_5 (by rw [show (nI (tW (tb k)) : Int32) = 14 from (by rw [hwk]; rfl)]; decide) (by rw [show (nI (tW (tb k)) : Int32) = 14 from (by rw [hwk]; rfl)]; decide) (by rw [show (nI (tW (tb k)) : Int32) = 14 from (by rw [hwk]; rfl)]; rfl) (by decide) ?_
      refine lv_iconst (v := (-1)) hx hb d_V_empty_97 (by decide) ?_
      exact z_iretQ hx hb hr hlocks d_V_empty_98 hS (Nat.le_of_ble_eq_true rfl) (Nat.le_of_ble_eq_true rfl) (by rw [show o_empty tb tc (nI k) = none from (by unfold o_empty; rw [hq9]; dsimp only; rw [if_neg (by omega), if_neg (by omega), if_neg (by omega)])]; exact ⟨rfl, hC⟩)
    · refine lv_tableIn (tgt := 78) hx hb d_V_empty_5 (by rw [show (nI (tW (tb k)) : Int32) = 15 from (by rw [hwk]; rfl)]; decide) (by rw [show (nI (tW (tb k)) : Int32) = 15 from (by rw [hwk]; rfl)]; decide) (by rw [show (nI (tW (tb k)) : Int32) = 15 from (by rw [hwk]; rfl)]; rfl) (by decide) ?_
      refine lv_aload_n hx hb d_V_empty_78 rfl (lv_at hl 0 rfl) ?_
      refine lv_iload_n hx hb d_V_empty_79 rfl (lv_at hl 1 rfl) ?_
      have hSp := hS
      refine z_newo (ci := 7) hx hb ht in_Tree ty_Tree tyk_Tree hown (ht _ q349) (ht _ q350) (ht _ q18) hK hS rfl fs_Tree (Nat.le_of_ble_eq_true rfl) (Nat.le_of_ble_eq_true rfl) d_V_empty_80 (fun ad31 H hqad31 hzad31 oad31 hoad31 hS => ?_)
      have hgad31 : s.heap.size ≤ ad31 := by rw [hqad31]; exact hSp.1
      have hAad31 : (fun q => q = rg ∨ s.heap.size ≤ q) ad31 := (Or.inr hgad31)
      have hgbad31 := Nat.le_trans hN.1 (Nat.le_of_eq hqad31.symm)
      have hN := hN.grew hzad31 hoad31
      refine lv_dup hx hb d_V_empty_83 rfl ?_
      refine lv_iload_n hx hb d_V_empty_84 rfl (lv_at hl 2 rfl) ?_
      refine lv_iconst (v := 5) hx hb d_V_empty_85 (by decide) ?_
      refine lv_iconst (v := 0) hx hb d_V_empty_86 (by decide) ?_
      have hSp := hS
      refine z_newq (C := "ValueTrees$Entry") hx hb hown (ht _ q351) hK (List.mem_of_getElem? (i := 2) rfl) 4 rfl hS 0 rfl (by decide) (Nat.le_of_ble_eq_true rfl) (Nat.le_of_ble_eq_true rfl) d_V_empty_87 (fun ad32 H hqad32 hzad32 oad32 hoad32 hS => ?_)
      have nead31ad32 : ad31 ≠ ad32 := by rw [hqad32]; exact Nat.ne_of_lt oad31.lt
      have oad31 := oad31.grew hoad32
      have hgad32 : s.heap.size ≤ ad32 := by rw [hqad32]; exact hSp.1
      have hAad32 : (fun q => q = rg ∨ s.heap.size ≤ q) ad32 := (Or.inr hgad32)
      have hgbad32 := Nat.le_trans hN.1 (Nat.le_of_eq hqad32.symm)
      have hN := hN.grew hzad32 hoad32
      refine z_callQ (va_runI (As := [.int (nI k), .int 5, .ref ad32]) (rest := [.ref ad31, .int r, .ref vv]) ⟨hx, hb, hml, hown, hts⟩ (c_Tree_init l D dT _ ad31 oad31 (nI k) 5 ad32) ⟨callB_of 3 hts (gI gd_up gd_c q355) rfl rfl rfl (ht _ q18) (ht _ q353) hd_Tree_init ⟨Nat.le_of_ble_eq_true rfl, Nat.le_of_ble_eq_true rfl⟩, rfl, ht _ q354⟩ (z_preS hK) rfl rfl hl.1 rfl (lv_room (Nat.le_of_ble_eq_true rfl)) d_V_empty_90 ⟨(Nat.le_of_ble_eq_true rfl), (Nat.le_of_ble_eq_true rfl)⟩) hS (fun q9 h9 => by rw [show q9 = ad31 from h9]; exact hAad31) (fun v34 H locs hv33 hz35 hf36 hS => ?_)
      obtain ⟨rfl, oad31⟩ := hv33
      have oad31 : va_at D cls (ad31, .inr (7, [.int (nI k), .int 5, .ref ad32])) H := oad31
      have oad32 := oad32.kept (hf36 _ oad32.lt (fun h9 => (Ne.symm nead31ad32) h9))
      have hN := hN.call hz35 hf36 (fun x hx h9 => by have h8 : x = ad31 := h9; omega)
      refine W.eq (g2 := F0 m 93 ls [.ref ad31, .int r, .ref vv]) rfl ?_
      have hwx : wty tb (.pow (.neg (.intCast 0)) k) 0 k := ⟨rfl, rfl, rfl, Or.inr ⟨Or.inl hwk, Or.inr (Or.inr rfl)⟩⟩
      have hrx : rv D dT Bq H (.pow (.neg (.intCast 0)) k) ad31 := rv_neg.mpr ⟨ad32, _, oad31, (fun h9 => absurd (hBs _ h9) (Nat.not_lt.mpr hgad31)), oad32, (fun h9 => absurd (hBs _ h9) (Nat.not_lt.mpr hgad32)), rc_nil⟩
      refine z_callQ (va_runV (C := "ValueTrees") (As := [.int r, .ref ad31]) (rest := []) ⟨hx, hb, hml, hown, hts⟩ (c_V_keep_r l D dT _ Bq vv rg li ed tb tc RV (hC.up hN) hV r (.pow (.neg (.intCast 0)) k) k ad31 hwx hrx (by rw [l_neg]; decide)) ⟨callB_of 2 hts (gI gd_up gd_c q264) rfl rfl rfl (ht _ q1) (ht _ q261) hd_V_keep ⟨Nat.le_of_ble_eq_true rfl, Nat.le_of_ble_eq_true rfl⟩, ht _ q263, ht _ qs6⟩ (z_preV hK (va_recv hK.1 (z_1 (hvv.grew hN.2)) (ci := 0) (q0 := 0) rfl rfl)) rfl rfl hl.1 rfl (lv_room (Nat.le_of_ble_eq_true rfl)) d_V_empty_93 ⟨(Nat.le_of_ble_eq_true rfl), (Nat.le_of_ble_eq_true rfl)⟩) hS (fun _ h9 => Or.inl h9) (fun v38 H locs hv37 hz39 hf40 hS => ?_)
      obtain ⟨rfl, hC⟩ := hv37
      refine W.eq (g2 := F0 m 96 ls [.int ((kp RV r (some (.pow (.neg (.intCast 0)) k))).1)]) rfl ?_
      exact z_iretQ hx hb hr hlocks d_V_empty_96 hS (Nat.le_of_ble_eq_true rfl) (Nat.le_of_ble_eq_true rfl) (by rw [show o_empty tb tc (nI k) = some (.pow (.neg (.intCast 0)) k) from (by unfold o_empty; rw [hq9]; dsimp only; rw [if_neg (by omega), if_neg (by omega), if_pos (by omega)])]; exact ⟨rfl, hC⟩)
    · refine lv_tableIn (tgt := 78) hx hb d_V_empty_5 (by rw [show (nI (tW (tb k)) : Int32) = 16 from (by rw [hwk]; rfl)]; decide) (by rw [show (nI (tW (tb k)) : Int32) = 16 from (by rw [hwk]; rfl)]; decide) (by rw [show (nI (tW (tb k)) : Int32) = 16 from (by rw [hwk]; rfl)]; rfl) (by decide) ?_
      refine lv_aload_n hx hb d_V_empty_78 rfl (lv_at hl 0 rfl) ?_
      refine lv_iload_n hx hb d_V_empty_79 rfl (lv_at hl 1 rfl) ?_
      have hSp := hS
      refine z_newo (ci := 7) hx hb ht in_Tree ty_Tree tyk_Tree hown (ht _ q349) (ht _ q350) (ht _ q18) hK hS rfl fs_Tree (Nat.le_of_ble_eq_true rfl) (Nat.le_of_ble_eq_true rfl) d_V_empty_80 (fun ad41 H hqad41 hzad41 oad41 hoad41 hS => ?_)
      have hgad41 : s.heap.size ≤ ad41 := by rw [hqad41]; exact hSp.1
      have hAad41 : (fun q => q = rg ∨ s.heap.size ≤ q) ad41 := (Or.inr hgad41)
      have hgbad41 := Nat.le_trans hN.1 (Nat.le_of_eq hqad41.symm)
      have hN := hN.grew hzad41 hoad41
      refine lv_dup hx hb d_V_empty_83 rfl ?_
      refine lv_iload_n hx hb d_V_empty_84 rfl (lv_at hl 2 rfl) ?_
      refine lv_iconst (v := 5) hx hb d_V_empty_85 (by decide) ?_
      refine lv_iconst (v := 0) hx hb d_V_empty_86 (by decide) ?_
      have hSp := hS
      refine z_newq (C := "ValueTrees$Entry") hx hb hown (ht _ q351) hK (List.mem_of_getElem? (i := 2) rfl) 4 rfl hS 0 rfl (by decide) (Nat.le_of_ble_eq_true rfl) (Nat.le_of_ble_eq_true rfl) d_V_empty_87 (fun ad42 H hqad42 hzad42 oad42 hoad42 hS => ?_)
      have nead41ad42 : ad41 ≠ ad42 := by rw [hqad42]; exact Nat.ne_of_lt oad41.lt
      have oad41 := oad41.grew hoad42
      have hgad42 : s.heap.size ≤ ad42 := by rw [hqad42]; exact hSp.1
      have hAad42 : (fun q => q = rg ∨ s.heap.size ≤ q) ad42 := (Or.inr hgad42)
      have hgbad42 := Nat.le_trans hN.1 (Nat.le_of_eq hqad42.symm)
      have hN := hN.grew hzad42 hoad42
      refine z_callQ (va_runI (As := [.int (nI k), .int 5, .ref ad42]) (rest := [.ref ad41, .int r, .ref vv]) ⟨hx, hb, hml, hown, hts⟩ (c_Tree_init l D dT _ ad41 oad41 (nI k) 5 ad42) ⟨callB_of 3 hts (gI gd_up gd_c q355) rfl rfl rfl (ht _ q18) (ht _ q353) hd_Tree_init ⟨Nat.le_of_ble_eq_true rfl, Nat.le_of_ble_eq_true rfl⟩, rfl, ht _ q354⟩ (z_preS hK) rfl rfl hl.1 rfl (lv_room (Nat.le_of_ble_eq_true rfl)) d_V_empty_90 ⟨(Nat.le_of_ble_eq_true rfl), (Nat.le_of_ble_eq_true rfl)⟩) hS (fun q9 h9 => by rw [show q9 = ad41 from h9]; exact hAad41) (fun v44 H locs hv43 hz45 hf46 hS => ?_)
      obtain ⟨rfl, oad41⟩ := hv43
      have oad41 : va_at D cls (ad41, .inr (7, [.int (nI k), .int 5, .ref ad42])) H := oad41
      have oad42 := oad42.kept (hf46 _ oad42.lt (fun h9 => (Ne.symm nead41ad42) h9))
      have hN := hN.call hz45 hf46 (fun x hx h9 => by have h8 : x = ad41 := h9; omega)
      refine W.eq (g2 := F0 m 93 ls [.ref ad41, .int r, .ref vv]) rfl ?_
      have hwx : wty tb (.pow (.neg (.intCast 0)) k) 0 k := ⟨rfl, rfl, rfl, Or.inr ⟨Or.inr hwk, Or.inr (Or.inr rfl)⟩⟩
      have hrx : rv D dT Bq H (.pow (.neg (.intCast 0)) k) ad41 := rv_neg.mpr ⟨ad42, _, oad41, (fun h9 => absurd (hBs _ h9) (Nat.not_lt.mpr hgad41)), oad42, (fun h9 => absurd (hBs _ h9) (Nat.not_lt.mpr hgad42)), rc_nil⟩
      refine z_callQ (va_runV (C := "ValueTrees") (As := [.int r, .ref ad41]) (rest := []) ⟨hx, hb, hml, hown, hts⟩ (c_V_keep_r l D dT _ Bq vv rg li ed tb tc RV (hC.up hN) hV r (.pow (.neg (.intCast 0)) k) k ad41 hwx hrx (by rw [l_neg]; decide)) ⟨callB_of 2 hts (gI gd_up gd_c q264) rfl rfl rfl (ht _ q1) (ht _ q261) hd_V_keep ⟨Nat.le_of_ble_eq_true rfl, Nat.le_of_ble_eq_true rfl⟩, ht _ q263, ht _ qs6⟩ (z_preV hK (va_recv hK.1 (z_1 (hvv.grew hN.2)) (ci := 0) (q0 := 0) rfl rfl)) rfl rfl hl.1 rfl (lv_room (Nat.le_of_ble_eq_true rfl)) d_V_empty_93 ⟨(Nat.le_of_ble_eq_true rfl), (Nat.le_of_ble_eq_true rfl)⟩) hS (fun _ h9 => Or.inl h9) (fun v48 H locs hv47 hz49 hf50 hS => ?_)
      obtain ⟨rfl, hC⟩ := hv47
      refine W.eq (g2 := F0 m 96 ls [.int ((kp RV r (some (.pow (.neg (.intCast 0)) k))).1)]) rfl ?_
      exact z_iretQ hx hb hr hlocks d_V_empty_96 hS (Nat.le_of_ble_eq_true rfl) (Nat.le_of_ble_eq_true rfl) (by rw [show o_empty tb tc (nI k) = some (.pow (.neg (.intCast 0)) k) from (by unfold o_empty; rw [hq9]; dsimp only; rw [if_neg (by omega), if_neg (by omega), if_pos (by omega)])]; exact ⟨rfl, hC⟩)
    · refine lv_tableOut (tgt := 97) hx hb d_V_empty_5 (by rw [show (nI (tW (tb k)) : Int32) = 17 from (by rw [hwk]; rfl)]; decide) (by decide) ?_
      refine lv_iconst (v := (-1)) hx hb d_V_empty_97 (by decide) ?_
      exact z_iretQ hx hb hr hlocks d_V_empty_98 hS (Nat.le_of_ble_eq_true rfl) (Nat.le_of_ble_eq_true rfl) (by rw [show o_empty tb tc (nI k) = none from (by unfold o_empty; rw [hq9]; dsimp only; rw [if_neg (by omega), if_neg (by omega), if_neg (by omega)])]; exact ⟨rfl, hC⟩)
    · refine lv_tableOut (tgt := 97) hx hb d_V_empty_5 (by rw [show (nI (tW (tb k)) : Int32) = 18 from (by rw [hwk]; rfl)]; decide) (by decide) ?_
      refine lv_iconst (v := (-1)) hx hb d_V_empty_97 (by decide) ?_
      exact z_iretQ hx hb hr hlocks d_V_empty_98 hS (Nat.le_of_ble_eq_true rfl) (Nat.le_of_ble_eq_true rfl) (by rw [show o_empty tb tc (nI k) = none from (by unfold o_empty; rw [hq9]; dsimp only; rw [if_neg (by omega), if_neg (by omega), if_neg (by omega)])]; exact ⟨rfl, hC⟩)
