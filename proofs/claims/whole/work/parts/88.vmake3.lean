theorem nI_m1 {T : Nat} (h : T < 2 ^ 31) : ¬ nI T = -1 := fun h9 => absurd (show nI T < 0 by rw [h9]; decide) (nI_pos h)
theorem wrap_ok {tb : Nat → TR} {tc : Nat} (hO : tOK tb tc) {t sd9 : Int32} {T : Nat} (hT : T < 2 ^ 31) (h : nI T = a_side tb tc t sd9) : ∃ k, k < tc ∧ t = nI k ∧ ((sd9 = 0 ∧ tW (tb k) = 10 ∧ T = lt_ tb k) ∨ (sd9 = 0 ∧ tW (tb k) = 14 ∧ T = lt_ tb k) ∨ (sd9 = 1 ∧ tW (tb k) = 14 ∧ T = rt_ tb k)) := by
  have hc := hO.1
  unfold a_side at h
  split at h
  · next hq =>
    obtain ⟨h0, hw⟩ := hq
    cases hk : tN tc t with
    | none => unfold a_left at h; rw [hk] at h; exact absurd h (nI_m1 hT)
    | some k =>
      obtain ⟨rfl, hkl⟩ := tN_some hk hc
      have hw18 := (hO.2.2 k hkl).1
      rw [a_word_ev hO hkl] at hw
      have hw2 : tW (tb k) = 10 ∨ tW (tb k) = 14 := hw.imp (nI_eq (b := 10) (by omega) (by decide)).mp (nI_eq (b := 14) (by omega) (by decide)).mp
      rw [a_left_ev hO hkl (by omega)] at h
      have hl := (tl_some hO hkl (by omega)).2.1
      have e := (nI_eq hT (by omega)).mp h
      exact ⟨k, hkl, rfl, hw2.elim (fun h9 => Or.inl ⟨h0, h9, e⟩) (fun h9 => Or.inr (Or.inl ⟨h0, h9, e⟩))⟩
  · split at h
    · next hq =>
      obtain ⟨h0, hw⟩ := hq
      cases hk : tN tc t with
      | none => unfold a_right at h; rw [hk] at h; exact absurd h (nI_m1 hT)
      | some k =>
        obtain ⟨rfl, hkl⟩ := tN_some hk hc
        have hw18 := (hO.2.2 k hkl).1
        rw [a_word_ev hO hkl] at hw
        have hw2 : tW (tb k) = 14 := (nI_eq (b := 14) (by omega) (by decide)).mp hw
        rw [a_right_ev hO hkl (by omega)] at h
        have hl := (tr_some hO hkl (by omega)).2.1
        have e := (nI_eq hT (by omega)).mp h
        exact ⟨k, hkl, rfl, Or.inr (Or.inr ⟨h0, hw2, e⟩)⟩
    · exact absurd h (nI_m1 hT)
theorem wrp_no {tb : Nat → TR} {tc : Nat} (hO : tOK tb tc) {t sd9 f : Int32} {RV : Nat → Option VT} {v : VT} (hv : rgs RV f = some v) (h : ¬ nI (vty v) = a_side tb tc t sd9) : o_wrap tb tc RV t sd9 f = none := by
  unfold o_wrap
  rw [hv]
  cases hk : tN tc t with
  | none => rfl
  | some k =>
    obtain ⟨rfl, hkl⟩ := tN_some hk hO.1
    dsimp only
    rw [if_neg, if_neg, if_neg]
    · rintro ⟨h0, hw, he⟩
      apply h
      unfold a_side
      rw [if_neg (by rw [h0]; exact fun q => absurd q.1 (by decide)), if_pos ⟨h0, by rw [a_word_ev hO hkl, hw]; rfl⟩, a_right_ev hO hkl (by omega), he]
    · rintro ⟨h0, hw, he⟩
      apply h
      unfold a_side
      rw [if_pos ⟨h0, Or.inr (by rw [a_word_ev hO hkl, hw]; rfl)⟩, a_left_ev hO hkl (by omega), he]
    · rintro ⟨h0, hw, he⟩
      apply h
      unfold a_side
      rw [if_pos ⟨h0, Or.inl (by rw [a_word_ev hO hkl, hw]; rfl)⟩, a_left_ev hO hkl (by omega), he]
theorem wrap_nf {tb : Nat → TR} {tc : Nat} {t sd9 f : Int32} {RV : Nat → Option VT} (hv : rgs RV f = none) : o_wrap tb tc RV t sd9 f = none := by
  unfold o_wrap
  rw [hv]
  cases tN tc t <;> rfl
theorem re_key {D : va_G} {dT : Nat → ClassId} {B : Nat → Prop} {H : Heap} {tb : Nat → TR} {v : VT} {t a k : Nat} (hw : wty tb v 0 t) (ho : va_at D cls (a, .inr (8, [.ref k, .null, .int (nI (cs v).length)])) H) (hB : ¬ B a) (hr : rv D dT B H v k) : rq D dT B H v 2 0 a nf := by
  rw [← eb_pow hw] at ho
  obtain ⟨c, rfl, -⟩ := wty_pow hw
  exact re_pow.mpr ⟨k, ho, hB, hr⟩
theorem eb_add (x y : VT) : (eb (.add x y)).length = 2 + (cs x).length + (cs y).length := by
  show ([7, 4] ++ (cs x ++ cs y)).length = _
  simp; omega
abbrev b_V_wrap : ByteArray := prog_1_method_9_code
abbrev y_V_wrap : MethodName := ⟨"ValueTrees", "wrap", "(IIII)I"⟩
abbrev w_V_wrap : List Cond := .code y_V_wrap b_V_wrap 6 (Option.some .int) :: gt
theorem hd_V_wrap : (y_V_wrap).cls ≠ "java/lang/invoke/MethodHandle" ∧ (y_V_wrap).cls ≠ "java/lang/invoke/VarHandle" ∧ (parseMethodDescriptor (y_V_wrap).desc).map (fun d => d.parameters.length) = some 4 := by decide +kernel
theorem d_V_wrap_0 : decode b_V_wrap 0 = .ok (.aload_n 0, 1) := by decide +kernel
theorem d_V_wrap_1 : decode b_V_wrap 1 = .ok (.iload 4, 2) := by decide +kernel
theorem d_V_wrap_3 : decode b_V_wrap 3 = .ok (.invokevirtual 77, 3) := by decide +kernel
theorem d_V_wrap_6 : decode b_V_wrap 6 = .ok (.astore 5, 2) := by decide +kernel
theorem d_V_wrap_8 : decode b_V_wrap 8 = .ok (.aload 5, 2) := by decide +kernel
theorem d_V_wrap_10 : decode b_V_wrap 10 = .ok (.ifnull 17, 3) := by decide +kernel
theorem d_V_wrap_13 : decode b_V_wrap 13 = .ok (.aload 5, 2) := by decide +kernel
theorem d_V_wrap_15 : decode b_V_wrap 15 = .ok (.getfield 125, 3) := by decide +kernel
theorem d_V_wrap_18 : decode b_V_wrap 18 = .ok (.aload_n 0, 1) := by decide +kernel
theorem d_V_wrap_19 : decode b_V_wrap 19 = .ok (.iload_n 2, 1) := by decide +kernel
theorem d_V_wrap_20 : decode b_V_wrap 20 = .ok (.iload_n 3, 1) := by decide +kernel
theorem d_V_wrap_21 : decode b_V_wrap 21 = .ok (.invokevirtual 126, 3) := by decide +kernel
theorem d_V_wrap_24 : decode b_V_wrap 24 = .ok (.if_icmp .eq 5, 3) := by decide +kernel
theorem d_V_wrap_27 : decode b_V_wrap 27 = .ok (.iconst (-1), 1) := by decide +kernel
theorem d_V_wrap_28 : decode b_V_wrap 28 = .ok (.ireturn, 1) := by decide +kernel
theorem d_V_wrap_29 : decode b_V_wrap 29 = .ok (.aload_n 0, 1) := by decide +kernel
theorem d_V_wrap_30 : decode b_V_wrap 30 = .ok (.iload_n 1, 1) := by decide +kernel
theorem d_V_wrap_31 : decode b_V_wrap 31 = .ok (.new 104, 3) := by decide +kernel
theorem d_V_wrap_34 : decode b_V_wrap 34 = .ok (.dup, 1) := by decide +kernel
theorem d_V_wrap_35 : decode b_V_wrap 35 = .ok (.iload_n 2, 1) := by decide +kernel
theorem d_V_wrap_36 : decode b_V_wrap 36 = .ok (.aload_n 0, 1) := by decide +kernel
theorem d_V_wrap_37 : decode b_V_wrap 37 = .ok (.iload_n 2, 1) := by decide +kernel
theorem d_V_wrap_38 : decode b_V_wrap 38 = .ok (.invokevirtual 109, 3) := by decide +kernel
theorem d_V_wrap_41 : decode b_V_wrap 41 = .ok (.bipush 10, 2) := by decide +kernel
theorem d_V_wrap_43 : decode b_V_wrap 43 = .ok (.if_icmp .ne 7, 3) := by decide +kernel
theorem d_V_wrap_46 : decode b_V_wrap 46 = .ok (.iconst 1, 1) := by decide +kernel
theorem d_V_wrap_47 : decode b_V_wrap 47 = .ok (.goto 4, 3) := by decide +kernel
theorem d_V_wrap_50 : decode b_V_wrap 50 = .ok (.iload_n 3, 1) := by decide +kernel
theorem d_V_wrap_51 : decode b_V_wrap 51 = .ok (.aload 5, 2) := by decide +kernel
theorem d_V_wrap_53 : decode b_V_wrap 53 = .ok (.invokespecial 106, 3) := by decide +kernel
theorem d_V_wrap_56 : decode b_V_wrap 56 = .ok (.invokevirtual 73, 3) := by decide +kernel
theorem d_V_wrap_59 : decode b_V_wrap 59 = .ok (.ireturn, 1) := by decide +kernel
set_option maxHeartbeats 4000000 in
set_option maxRecDepth 100000 in
theorem p_V_wrap (l : Launch) (D : va_G) (dT : Nat → ClassId) (H : Heap) (Bq : Nat → Prop) (vv rg li ed : Nat) (tb : Nat → TR) (tc : Nat) (RV : Nat → Option VT) (hC : cI D dT Bq vv rg li ed tb tc RV H) (hV : vOK tb tc RV) (r t sd9 f : Int32) : Met l y_V_wrap w_V_wrap ({ frames := 6, cells := 1, slots := 4, locals := 130 }) (z_P D dT [.ref vv, .int r, .int t, .int sd9, .int f] H) (z_Q (fun q => q = rg ∨ H.size ≤ q) (fun v H1 => v = some (.int (kp RV r (o_wrap tb tc RV t sd9 f)).1) ∧ cI D dT Bq vv rg li ed tb tc (kp RV r (o_wrap tb tc RV t sd9 f)).2 H1)) 1 4 (fun q => q = rg ∨ H.size ≤ q) := by
  obtain ⟨⟨hBs, hBr, hBl, hBe, hBv, hrl, hre, hle⟩, hvv, hCR, hCT⟩ := id hC
  have hO := hV.1
  have htc := hO.1
  have htc10 := hO.2.1
  refine Met.ofW (cc := b_V_wrap) (maxL := 6) (ret := (Option.some .int)) (by decide) rfl ?_
  intro p e s m args below meth c s₁ B hml hv
  obtain ⟨rfl, rfl, hK⟩ := hv
  have hx := B.exec
  have hb := B.bytes
  have hr := B.returns
  have hts := atoms_spec (ws := w_V_wrap) B.pre
  have ht : ∀ w9 ∈ gt, w9.before [.ref vv, .int r, .int t, .int sd9, .int f].toArray s = true := fun w9 h => hts w9 (List.mem_cons_of_mem _ h)
  have hown : s.vm.findClass "ValueTrees" = some m.cls := findClass_of_methodNamed B.named
  have hlocks := B.notSynchronized
  have hS : va_S (fun q => q = rg ∨ s.heap.size ≤ q) s.heap s.heap [] := va_S.rf
  have hl := lv_entry ([.ref vv, .int r, .int t, .int sd9, .int f]) (n := 6) (Nat.le_of_ble_eq_true rfl)
  rw [lg_entry_eq]
  generalize (lg_sl ([.ref vv, .int r, .int t, .int sd9, .int f]) ++ List.replicate (6 - (lg_sl ([.ref vv, .int r, .int t, .int sd9, .int f])).length) Slot.unset).toArray = ls at hl ⊢
  have hl : lv_has ls 6 [(0, .ref vv), (1, .int r), (2, .int t), (3, .int sd9), (4, .int f)] := hl
  have hN : nU s.heap s.heap := nU.rf
  refine lv_aload_n hx hb d_V_wrap_0 rfl (lv_at hl 0 rfl) ?_
  refine lv_iload hx hb d_V_wrap_1 (lv_at hl 4 rfl) ?_
  refine z_callR (va_runV (C := "ValueTrees") (As := [.int f]) (rest := []) ⟨hx, hb, hml, hown, hts⟩ (c_V_held l D dT _ Bq vv rg li ed tb tc RV (hC.up hN) hV f) ⟨callB_of 1 hts (gI gd_up gd_c q275) rfl rfl rfl (ht _ q1) (ht _ q272) hd_V_held ⟨Nat.le_of_ble_eq_true rfl, Nat.le_of_ble_eq_true rfl⟩, ht _ q274, ht _ qs7⟩ (z_preV hK (va_recv hK.1 (z_1 (hvv.grew hN.2)) (ci := 0) (q0 := 0) rfl rfl)) rfl rfl hl.1 rfl (lv_room (Nat.le_of_ble_eq_true rfl)) d_V_wrap_3 ⟨Nat.zero_le _, Nat.zero_le _⟩) (fun v2 hv1 => ?_)
  rcases hv1 with ⟨rfl, hr5⟩ | ⟨a3, v4, rfl, hr5, hq4⟩
  · refine lv_astoreN (lv' := [(5, .null), (0, .ref vv), (1, .int r), (2, .int t), (3, .int sd9), (4, .int f)]) hx hb d_V_wrap_6 hl (by decide) rfl (fun ls hl => ?_)
    refine lv_aloadN hx hb d_V_wrap_8 (lv_at hl 0 rfl) ?_
    refine lv_ifnullN (tgt := 27) hx hb d_V_wrap_10 (by decide) ?_
    refine lv_iconst (v := (-1)) hx hb d_V_wrap_27 (by decide) ?_
    exact z_iretQ hx hb hr hlocks d_V_wrap_28 hS (Nat.le_of_ble_eq_true rfl) (Nat.le_of_ble_eq_true rfl) (by rw [show o_wrap tb tc RV t sd9 f = none from wrap_nf hr5]; exact ⟨rfl, hC⟩)
  · obtain ⟨ht4, hw4, hl4⟩ := vOK_get hV hr5
    obtain ⟨hh4, hnb4⟩ := rv_hd hw4 hq4
    refine lv_astore (lv' := [(5, .ref a3), (0, .ref vv), (1, .int r), (2, .int t), (3, .int sd9), (4, .int f)]) hx hb d_V_wrap_6 hl (by decide) rfl (fun ls hl => ?_)
    refine lv_aload hx hb d_V_wrap_8 (lv_at hl 0 rfl) ?_
    refine lv_ifnull hx hb d_V_wrap_10 ?_
    refine lv_aload hx hb d_V_wrap_13 (lv_at hl 0 rfl) ?_
    refine z_vty hx hb ht hown hK (hh4.grew hN.2) (ht _ q235) d_V_wrap_15 ?_
    refine lv_aload_n hx hb d_V_wrap_18 rfl (lv_at hl 1 rfl) ?_
    refine lv_iload_n hx hb d_V_wrap_19 rfl (lv_at hl 3 rfl) ?_
    refine lv_iload_n hx hb d_V_wrap_20 rfl (lv_at hl 4 rfl) ?_
    refine z_callR (va_runV (C := "ValueTrees") (As := [.int t, .int sd9]) (rest := [.int (nI (vty v4))]) ⟨hx, hb, hml, hown, hts⟩ (c_V_sideType l D dT _ Bq vv rg li ed tb tc RV (hC.up hN) hV t sd9) ⟨callB_of 2 hts (gI gd_up gd_c q371) rfl rfl rfl (ht _ q1) (ht _ q368) hd_V_sideType ⟨Nat.le_of_ble_eq_true rfl, Nat.le_of_ble_eq_true rfl⟩, ht _ q370, ht _ qs9⟩ (z_preV hK (va_recv hK.1 (z_1 (hvv.grew hN.2)) (ci := 0) (q0 := 0) rfl rfl)) rfl rfl hl.1 rfl (lv_room (Nat.le_of_ble_eq_true rfl)) d_V_wrap_21 ⟨Nat.zero_le _, Nat.zero_le _⟩) (fun v7 hv6 => ?_)
    subst hv6
    refine lv_icmp_eq (tgt := 29) hx hb d_V_wrap_24 (by decide) (fun c8 => ?_) (fun c8 => ?_)
    · obtain ⟨k, hk, rfl, ⟨rfl, hwk, hwe⟩ | ⟨rfl, hwk, hwe⟩ | ⟨rfl, hwk, hwe⟩⟩ := wrap_ok hO (by omega) c8
      · refine lv_aload_n hx hb d_V_wrap_29 rfl (lv_at hl 1 rfl) ?_
        refine lv_iload_n hx hb d_V_wrap_30 rfl (lv_at hl 2 rfl) ?_
        have hSp := hS
        refine z_newo (ci := 4) hx hb ht in_Choice ty_Choice tyk_Choice hown (ht _ q303) (ht _ q304) (ht _ q16) hK hS rfl fs_Choice (Nat.le_of_ble_eq_true rfl) (Nat.le_of_ble_eq_true rfl) d_V_wrap_31 (fun ad9 H hqad9 hzad9 oad9 hoad9 hS => ?_)
        have hgad9 : s.heap.size ≤ ad9 := by rw [hqad9]; exact hSp.1
        have hAad9 : (fun q => q = rg ∨ s.heap.size ≤ q) ad9 := (Or.inr hgad9)
        have hgbad9 := Nat.le_trans hN.1 (Nat.le_of_eq hqad9.symm)
        have hN := hN.grew hzad9 hoad9
        refine lv_dup hx hb d_V_wrap_34 rfl ?_
        refine lv_iload_n hx hb d_V_wrap_35 rfl (lv_at hl 3 rfl) ?_
        refine lv_aload_n hx hb d_V_wrap_36 rfl (lv_at hl 1 rfl) ?_
        refine lv_iload_n hx hb d_V_wrap_37 rfl (lv_at hl 3 rfl) ?_
        refine z_callR (va_runV (C := "ValueTrees") (As := [.int (nI k)]) (rest := [.int (nI k), .ref ad9, .ref ad9, .int r, .ref vv]) ⟨hx, hb, hml, hown, hts⟩ (c_V_wordOf l D dT _ Bq vv rg li ed tb tc RV (hC.up hN) hV (nI k)) ⟨callB_of 1 hts (gI gd_up gd_c q327) rfl rfl rfl (ht _ q1) (ht _ q324) hd_V_wordOf ⟨Nat.le_of_ble_eq_true rfl, Nat.le_of_ble_eq_true rfl⟩, ht _ q326, ht _ qs8⟩ (z_preV hK (va_recv hK.1 (z_1 (hvv.grew hN.2)) (ci := 0) (q0 := 0) rfl rfl)) rfl rfl hl.1 rfl (lv_room (Nat.le_of_ble_eq_true rfl)) d_V_wrap_38 ⟨Nat.le_of_ble_eq_true rfl, Nat.le_of_ble_eq_true rfl⟩) (fun v11 hv10 => ?_)
        subst hv10
        rw [show a_word tb tc (nI k) = 10 from (by rw [a_word_ev hO hk, hwk]; rfl)]
        refine lv_bipush (v := 10) hx hb d_V_wrap_41 (by decide) ?_
        refine lv_icmp_ne (tgt := 50) hx hb d_V_wrap_43 (by decide) (fun c12 => absurd c12 (by decide)) (fun _ => ?_)
        refine lv_iconst (v := 1) hx hb d_V_wrap_46 (by decide) ?_
        refine lv_goto (tgt := 51) hx hb d_V_wrap_47 (by decide) ?_
        refine lv_aload hx hb d_V_wrap_51 (lv_at hl 0 rfl) ?_
        refine z_callQ (va_runI (As := [.int (nI k), .int 1, .ref a3]) (rest := [.ref ad9, .int r, .ref vv]) ⟨hx, hb, hml, hown, hts⟩ (c_Choice_init_r l D dT _ ad9 oad9 (nI k) 1 (nI (cs v4).length) (nI (vty v4)) a3 (hh4.grew hN.2)) ⟨callB_of 3 hts (gI gd_up gd_c q307) rfl rfl rfl (ht _ q16) (ht _ q305) hd_Choice_init ⟨Nat.le_of_ble_eq_true rfl, Nat.le_of_ble_eq_true rfl⟩, rfl, ht _ q306⟩ (z_preS hK) rfl rfl hl.1 rfl (lv_room (Nat.le_of_ble_eq_true rfl)) d_V_wrap_53 ⟨(Nat.le_of_ble_eq_true rfl), (Nat.le_of_ble_eq_true rfl)⟩) hS (fun q9 h9 => by rw [show q9 = ad9 from h9]; exact hAad9) (fun v14 H locs hv13 hz15 hf16 hS => ?_)
        obtain ⟨rfl, oad9⟩ := hv13
        have oad9 : va_at D cls (ad9, .inr (4, [.int (nI k), .int (2 + (nI (cs v4).length)), .int 1, .ref a3])) H := oad9
        have hN := hN.call hz15 hf16 (fun x hx h9 => by have h8 : x = ad9 := h9; omega)
        refine W.eq (g2 := F0 m 56 ls [.ref ad9, .int r, .ref vv]) rfl ?_
        have hwx : wty tb (.pow (.sub (.var 3) v4) k) 0 k := ⟨rfl, rfl, rfl, Or.inl ⟨hwk, rfl, by rw [← hwe]; exact hw4⟩⟩
        have hrx : rv D dT Bq H (.pow (.sub (.var 3) v4) k) ad9 := rv_sub.mpr ⟨a3, by rw [wl_sub]; exact oad9, (fun h9 => absurd (hBs _ h9) (Nat.not_lt.mpr hgad9)), rq_up hN.2 hq4⟩
        refine z_callQ (va_runV (C := "ValueTrees") (As := [.int r, .ref ad9]) (rest := []) ⟨hx, hb, hml, hown, hts⟩ (c_V_keep_r l D dT _ Bq vv rg li ed tb tc RV (hC.up hN) hV r (.pow (.sub (.var 3) v4) k) k ad9 hwx hrx (by rw [l_sub]; omega)) ⟨callB_of 2 hts (gI gd_up gd_c q264) rfl rfl rfl (ht _ q1) (ht _ q261) hd_V_keep ⟨Nat.le_of_ble_eq_true rfl, Nat.le_of_ble_eq_true rfl⟩, ht _ q263, ht _ qs6⟩ (z_preV hK (va_recv hK.1 (z_1 (hvv.grew hN.2)) (ci := 0) (q0 := 0) rfl rfl)) rfl rfl hl.1 rfl (lv_room (Nat.le_of_ble_eq_true rfl)) d_V_wrap_56 ⟨(Nat.le_of_ble_eq_true rfl), (Nat.le_of_ble_eq_true rfl)⟩) hS (fun _ h9 => Or.inl h9) (fun v18 H locs hv17 hz19 hf20 hS => ?_)
        obtain ⟨rfl, hC⟩ := hv17
        refine W.eq (g2 := F0 m 59 ls [.int ((kp RV r (some (.pow (.sub (.var 3) v4) k))).1)]) rfl ?_
        exact z_iretQ hx hb hr hlocks d_V_wrap_59 hS (Nat.le_of_ble_eq_true rfl) (Nat.le_of_ble_eq_true rfl) (by rw [show o_wrap tb tc RV (nI k) 0 f = some (.pow (.sub (.var 3) v4) k) from (by unfold o_wrap; rw [tN_nI hk htc, hr5]; dsimp only; rw [if_pos ⟨rfl, hwk, hwe⟩])]; exact ⟨rfl, hC⟩)
      · refine lv_aload_n hx hb d_V_wrap_29 rfl (lv_at hl 1 rfl) ?_
        refine lv_iload_n hx hb d_V_wrap_30 rfl (lv_at hl 2 rfl) ?_
        have hSp := hS
        refine z_newo (ci := 4) hx hb ht in_Choice ty_Choice tyk_Choice hown (ht _ q303) (ht _ q304) (ht _ q16) hK hS rfl fs_Choice (Nat.le_of_ble_eq_true rfl) (Nat.le_of_ble_eq_true rfl) d_V_wrap_31 (fun ad21 H hqad21 hzad21 oad21 hoad21 hS => ?_)
        have hgad21 : s.heap.size ≤ ad21 := by rw [hqad21]; exact hSp.1
        have hAad21 : (fun q => q = rg ∨ s.heap.size ≤ q) ad21 := (Or.inr hgad21)
        have hgbad21 := Nat.le_trans hN.1 (Nat.le_of_eq hqad21.symm)
        have hN := hN.grew hzad21 hoad21
        refine lv_dup hx hb d_V_wrap_34 rfl ?_
        refine lv_iload_n hx hb d_V_wrap_35 rfl (lv_at hl 3 rfl) ?_
        refine lv_aload_n hx hb d_V_wrap_36 rfl (lv_at hl 1 rfl) ?_
        refine lv_iload_n hx hb d_V_wrap_37 rfl (lv_at hl 3 rfl) ?_
        refine z_callR (va_runV (C := "ValueTrees") (As := [.int (nI k)]) (rest := [.int (nI k), .ref ad21, .ref ad21, .int r, .ref vv]) ⟨hx, hb, hml, hown, hts⟩ (c_V_wordOf l D dT _ Bq vv rg li ed tb tc RV (hC.up hN) hV (nI k)) ⟨callB_of 1 hts (gI gd_up gd_c q327) rfl rfl rfl (ht _ q1) (ht _ q324) hd_V_wordOf ⟨Nat.le_of_ble_eq_true rfl, Nat.le_of_ble_eq_true rfl⟩, ht _ q326, ht _ qs8⟩ (z_preV hK (va_recv hK.1 (z_1 (hvv.grew hN.2)) (ci := 0) (q0 := 0) rfl rfl)) rfl rfl hl.1 rfl (lv_room (Nat.le_of_ble_eq_true rfl)) d_V_wrap_38 ⟨Nat.le_of_ble_eq_true rfl, Nat.le_of_ble_eq_true rfl⟩) (fun v23 hv22 => ?_)
        subst hv22
        rw [show a_word tb tc (nI k) = 14 from (by rw [a_word_ev hO hk, hwk]; rfl)]
        refine lv_bipush (v := 10) hx hb d_V_wrap_41 (by decide) ?_
        refine lv_icmp_ne (tgt := 50) hx hb d_V_wrap_43 (by decide) (fun _ => ?_) (fun c24 => absurd c24 (by decide))
        refine lv_iload_n hx hb d_V_wrap_50 rfl (lv_at hl 4 rfl) ?_
        refine lv_aload hx hb d_V_wrap_51 (lv_at hl 0 rfl) ?_
        refine z_callQ (va_runI (As := [.int (nI k), .int 0, .ref a3]) (rest := [.ref ad21, .int r, .ref vv]) ⟨hx, hb, hml, hown, hts⟩ (c_Choice_init_r l D dT _ ad21 oad21 (nI k) 0 (nI (cs v4).length) (nI (vty v4)) a3 (hh4.grew hN.2)) ⟨callB_of 3 hts (gI gd_up gd_c q307) rfl rfl rfl (ht _ q16) (ht _ q305) hd_Choice_init ⟨Nat.le_of_ble_eq_true rfl, Nat.le_of_ble_eq_true rfl⟩, rfl, ht _ q306⟩ (z_preS hK) rfl rfl hl.1 rfl (lv_room (Nat.le_of_ble_eq_true rfl)) d_V_wrap_53 ⟨(Nat.le_of_ble_eq_true rfl), (Nat.le_of_ble_eq_true rfl)⟩) hS (fun q9 h9 => by rw [show q9 = ad21 from h9]; exact hAad21) (fun v26 H locs hv25 hz27 hf28 hS => ?_)
        obtain ⟨rfl, oad21⟩ := hv25
        have oad21 : va_at D cls (ad21, .inr (4, [.int (nI k), .int (2 + (nI (cs v4).length)), .int 0, .ref a3])) H := oad21
        have hN := hN.call hz27 hf28 (fun x hx h9 => by have h8 : x = ad21 := h9; omega)
        refine W.eq (g2 := F0 m 56 ls [.ref ad21, .int r, .ref vv]) rfl ?_
        have hwx : wty tb (.pow (.sub (.var 1) v4) k) 0 k := ⟨rfl, rfl, rfl, Or.inr (Or.inl ⟨hwk, rfl, by rw [← hwe]; exact hw4⟩)⟩
        have hrx : rv D dT Bq H (.pow (.sub (.var 1) v4) k) ad21 := rv_sub.mpr ⟨a3, by rw [wl_sub]; exact oad21, (fun h9 => absurd (hBs _ h9) (Nat.not_lt.mpr hgad21)), rq_up hN.2 hq4⟩
        refine z_callQ (va_runV (C := "ValueTrees") (As := [.int r, .ref ad21]) (rest := []) ⟨hx, hb, hml, hown, hts⟩ (c_V_keep_r l D dT _ Bq vv rg li ed tb tc RV (hC.up hN) hV r (.pow (.sub (.var 1) v4) k) k ad21 hwx hrx (by rw [l_sub]; omega)) ⟨callB_of 2 hts (gI gd_up gd_c q264) rfl rfl rfl (ht _ q1) (ht _ q261) hd_V_keep ⟨Nat.le_of_ble_eq_true rfl, Nat.le_of_ble_eq_true rfl⟩, ht _ q263, ht _ qs6⟩ (z_preV hK (va_recv hK.1 (z_1 (hvv.grew hN.2)) (ci := 0) (q0 := 0) rfl rfl)) rfl rfl hl.1 rfl (lv_room (Nat.le_of_ble_eq_true rfl)) d_V_wrap_56 ⟨(Nat.le_of_ble_eq_true rfl), (Nat.le_of_ble_eq_true rfl)⟩) hS (fun _ h9 => Or.inl h9) (fun v30 H locs hv29 hz31 hf32 hS => ?_)
        obtain ⟨rfl, hC⟩ := hv29
        refine W.eq (g2 := F0 m 59 ls [.int ((kp RV r (some (.pow (.sub (.var 1) v4) k))).1)]) rfl ?_
        exact z_iretQ hx hb hr hlocks d_V_wrap_59 hS (Nat.le_of_ble_eq_true rfl) (Nat.le_of_ble_eq_true rfl) (by rw [show o_wrap tb tc RV (nI k) 0 f = some (.pow (.sub (.var 1) v4) k) from (by unfold o_wrap; rw [tN_nI hk htc, hr5]; dsimp only; rw [if_neg (by omega), if_pos ⟨rfl, hwk, hwe⟩])]; exact ⟨rfl, hC⟩)
      · refine lv_aload_n hx hb d_V_wrap_29 rfl (lv_at hl 1 rfl) ?_
        refine lv_iload_n hx hb d_V_wrap_30 rfl (lv_at hl 2 rfl) ?_
        have hSp := hS
        refine z_newo (ci := 4) hx hb ht in_Choice ty_Choice tyk_Choice hown (ht _ q303) (ht _ q304) (ht _ q16) hK hS rfl fs_Choice (Nat.le_of_ble_eq_true rfl) (Nat.le_of_ble_eq_true rfl) d_V_wrap_31 (fun ad33 H hqad33 hzad33 oad33 hoad33 hS => ?_)
        have hgad33 : s.heap.size ≤ ad33 := by rw [hqad33]; exact hSp.1
        have hAad33 : (fun q => q = rg ∨ s.heap.size ≤ q) ad33 := (Or.inr hgad33)
        have hgbad33 := Nat.le_trans hN.1 (Nat.le_of_eq hqad33.symm)
        have hN := hN.grew hzad33 hoad33
        refine lv_dup hx hb d_V_wrap_34 rfl ?_
        refine lv_iload_n hx hb d_V_wrap_35 rfl (lv_at hl 3 rfl) ?_
        refine lv_aload_n hx hb d_V_wrap_36 rfl (lv_at hl 1 rfl) ?_
        refine lv_iload_n hx hb d_V_wrap_37 rfl (lv_at hl 3 rfl) ?_
        refine z_callR (va_runV (C := "ValueTrees") (As := [.int (nI k)]) (rest := [.int (nI k), .ref ad33, .ref ad33, .int r, .ref vv]) ⟨hx, hb, hml, hown, hts⟩ (c_V_wordOf l D dT _ Bq vv rg li ed tb tc RV (hC.up hN) hV (nI k)) ⟨callB_of 1 hts (gI gd_up gd_c q327) rfl rfl rfl (ht _ q1) (ht _ q324) hd_V_wordOf ⟨Nat.le_of_ble_eq_true rfl, Nat.le_of_ble_eq_true rfl⟩, ht _ q326, ht _ qs8⟩ (z_preV hK (va_recv hK.1 (z_1 (hvv.grew hN.2)) (ci := 0) (q0 := 0) rfl rfl)) rfl rfl hl.1 rfl (lv_room (Nat.le_of_ble_eq_true rfl)) d_V_wrap_38 ⟨Nat.le_of_ble_eq_true rfl, Nat.le_of_ble_eq_true rfl⟩) (fun v35 hv34 => ?_)
        subst hv34
        rw [show a_word tb tc (nI k) = 14 from (by rw [a_word_ev hO hk, hwk]; rfl)]
        refine lv_bipush (v := 10) hx hb d_V_wrap_41 (by decide) ?_
        refine lv_icmp_ne (tgt := 50) hx hb d_V_wrap_43 (by decide) (fun _ => ?_) (fun c36 => absurd c36 (by decide))
        refine lv_iload_n hx hb d_V_wrap_50 rfl (lv_at hl 4 rfl) ?_
        refine lv_aload hx hb d_V_wrap_51 (lv_at hl 0 rfl) ?_
        refine z_callQ (va_runI (As := [.int (nI k), .int 1, .ref a3]) (rest := [.ref ad33, .int r, .ref vv]) ⟨hx, hb, hml, hown, hts⟩ (c_Choice_init_r l D dT _ ad33 oad33 (nI k) 1 (nI (cs v4).length) (nI (vty v4)) a3 (hh4.grew hN.2)) ⟨callB_of 3 hts (gI gd_up gd_c q307) rfl rfl rfl (ht _ q16) (ht _ q305) hd_Choice_init ⟨Nat.le_of_ble_eq_true rfl, Nat.le_of_ble_eq_true rfl⟩, rfl, ht _ q306⟩ (z_preS hK) rfl rfl hl.1 rfl (lv_room (Nat.le_of_ble_eq_true rfl)) d_V_wrap_53 ⟨(Nat.le_of_ble_eq_true rfl), (Nat.le_of_ble_eq_true rfl)⟩) hS (fun q9 h9 => by rw [show q9 = ad33 from h9]; exact hAad33) (fun v38 H locs hv37 hz39 hf40 hS => ?_)
        obtain ⟨rfl, oad33⟩ := hv37
        have oad33 : va_at D cls (ad33, .inr (4, [.int (nI k), .int (2 + (nI (cs v4).length)), .int 1, .ref a3])) H := oad33
        have hN := hN.call hz39 hf40 (fun x hx h9 => by have h8 : x = ad33 := h9; omega)
        refine W.eq (g2 := F0 m 56 ls [.ref ad33, .int r, .ref vv]) rfl ?_
        have hwx : wty tb (.pow (.sub (.var 2) v4) k) 0 k := ⟨rfl, rfl, rfl, Or.inr (Or.inr ⟨hwk, rfl, by rw [← hwe]; exact hw4⟩)⟩
        have hrx : rv D dT Bq H (.pow (.sub (.var 2) v4) k) ad33 := rv_sub.mpr ⟨a3, by rw [wl_sub]; exact oad33, (fun h9 => absurd (hBs _ h9) (Nat.not_lt.mpr hgad33)), rq_up hN.2 hq4⟩
        refine z_callQ (va_runV (C := "ValueTrees") (As := [.int r, .ref ad33]) (rest := []) ⟨hx, hb, hml, hown, hts⟩ (c_V_keep_r l D dT _ Bq vv rg li ed tb tc RV (hC.up hN) hV r (.pow (.sub (.var 2) v4) k) k ad33 hwx hrx (by rw [l_sub]; omega)) ⟨callB_of 2 hts (gI gd_up gd_c q264) rfl rfl rfl (ht _ q1) (ht _ q261) hd_V_keep ⟨Nat.le_of_ble_eq_true rfl, Nat.le_of_ble_eq_true rfl⟩, ht _ q263, ht _ qs6⟩ (z_preV hK (va_recv hK.1 (z_1 (hvv.grew hN.2)) (ci := 0) (q0 := 0) rfl rfl)) rfl rfl hl.1 rfl (lv_room (Nat.le_of_ble_eq_true rfl)) d_V_wrap_56 ⟨(Nat.le_of_ble_eq_true rfl), (Nat.le_of_ble_eq_true rfl)⟩) hS (fun _ h9 => Or.inl h9) (fun v42 H locs hv41 hz43 hf44 hS => ?_)
        obtain ⟨rfl, hC⟩ := hv41
        refine W.eq (g2 := F0 m 59 ls [.int ((kp RV r (some (.pow (.sub (.var 2) v4) k))).1)]) rfl ?_
        exact z_iretQ hx hb hr hlocks d_V_wrap_59 hS (Nat.le_of_ble_eq_true rfl) (Nat.le_of_ble_eq_true rfl) (by rw [show o_wrap tb tc RV (nI k) 1 f = some (.pow (.sub (.var 2) v4) k) from (by unfold o_wrap; rw [tN_nI hk htc, hr5]; dsimp only; rw [if_neg (fun h9 => absurd h9.1 (by decide)), if_neg (fun h9 => absurd h9.1 (by decide)), if_pos ⟨rfl, hwk, hwe⟩])]; exact ⟨rfl, hC⟩)
    · refine lv_iconst (v := (-1)) hx hb d_V_wrap_27 (by decide) ?_
      exact z_iretQ hx hb hr hlocks d_V_wrap_28 hS (Nat.le_of_ble_eq_true rfl) (Nat.le_of_ble_eq_true rfl) (by rw [show o_wrap tb tc RV t sd9 f = none from wrp_no hO hr5 c8]; exact ⟨rfl, hC⟩)
abbrev b_V_cons : ByteArray := prog_1_method_11_code
abbrev y_V_cons : MethodName := ⟨"ValueTrees", "cons", "(III)I"⟩
abbrev w_V_cons : List Cond := .code y_V_cons b_V_cons 7 (Option.some .int) :: gt
theorem hd_V_cons : (y_V_cons).cls ≠ "java/lang/invoke/MethodHandle" ∧ (y_V_cons).cls ≠ "java/lang/invoke/VarHandle" ∧ (parseMethodDescriptor (y_V_cons).desc).map (fun d => d.parameters.length) = some 3 := by decide +kernel
theorem d_V_cons_0 : decode b_V_cons 0 = .ok (.aload_n 0, 1) := by decide +kernel
theorem d_V_cons_1 : decode b_V_cons 1 = .ok (.iload_n 2, 1) := by decide +kernel
theorem d_V_cons_2 : decode b_V_cons 2 = .ok (.invokevirtual 77, 3) := by decide +kernel
theorem d_V_cons_5 : decode b_V_cons 5 = .ok (.astore 4, 2) := by decide +kernel
theorem d_V_cons_7 : decode b_V_cons 7 = .ok (.aload 4, 2) := by decide +kernel
theorem d_V_cons_9 : decode b_V_cons 9 = .ok (.ifnull 42, 3) := by decide +kernel
theorem d_V_cons_12 : decode b_V_cons 12 = .ok (.aload_n 0, 1) := by decide +kernel
theorem d_V_cons_13 : decode b_V_cons 13 = .ok (.iload_n 3, 1) := by decide +kernel
theorem d_V_cons_14 : decode b_V_cons 14 = .ok (.invokevirtual 77, 3) := by decide +kernel
theorem d_V_cons_17 : decode b_V_cons 17 = .ok (.astore 6, 2) := by decide +kernel
theorem d_V_cons_19 : decode b_V_cons 19 = .ok (.aload 6, 2) := by decide +kernel
theorem d_V_cons_21 : decode b_V_cons 21 = .ok (.instanceof 113, 3) := by decide +kernel
theorem d_V_cons_24 : decode b_V_cons 24 = .ok (.ifCond .eq 27, 3) := by decide +kernel
theorem d_V_cons_27 : decode b_V_cons 27 = .ok (.aload 6, 2) := by decide +kernel
theorem d_V_cons_29 : decode b_V_cons 29 = .ok (.checkcast 113, 3) := by decide +kernel
theorem d_V_cons_32 : decode b_V_cons 32 = .ok (.astore 5, 2) := by decide +kernel
theorem d_V_cons_34 : decode b_V_cons 34 = .ok (.aload 4, 2) := by decide +kernel
theorem d_V_cons_36 : decode b_V_cons 36 = .ok (.getfield 125, 3) := by decide +kernel
theorem d_V_cons_39 : decode b_V_cons 39 = .ok (.aload_n 0, 1) := by decide +kernel
theorem d_V_cons_40 : decode b_V_cons 40 = .ok (.aload 5, 2) := by decide +kernel
theorem d_V_cons_42 : decode b_V_cons 42 = .ok (.getfield 143, 3) := by decide +kernel
theorem d_V_cons_45 : decode b_V_cons 45 = .ok (.invokevirtual 144, 3) := by decide +kernel
theorem d_V_cons_48 : decode b_V_cons 48 = .ok (.if_icmp .eq 5, 3) := by decide +kernel
theorem d_V_cons_51 : decode b_V_cons 51 = .ok (.iconst (-1), 1) := by decide +kernel
theorem d_V_cons_52 : decode b_V_cons 52 = .ok (.ireturn, 1) := by decide +kernel
theorem d_V_cons_53 : decode b_V_cons 53 = .ok (.aload_n 0, 1) := by decide +kernel
theorem d_V_cons_54 : decode b_V_cons 54 = .ok (.iload_n 1, 1) := by decide +kernel
theorem d_V_cons_55 : decode b_V_cons 55 = .ok (.new 113, 3) := by decide +kernel
theorem d_V_cons_58 : decode b_V_cons 58 = .ok (.dup, 1) := by decide +kernel
theorem d_V_cons_59 : decode b_V_cons 59 = .ok (.aload 4, 2) := by decide +kernel
theorem d_V_cons_61 : decode b_V_cons 61 = .ok (.aload 5, 2) := by decide +kernel
theorem d_V_cons_63 : decode b_V_cons 63 = .ok (.invokespecial 147, 3) := by decide +kernel
theorem d_V_cons_66 : decode b_V_cons 66 = .ok (.invokevirtual 73, 3) := by decide +kernel
theorem d_V_cons_69 : decode b_V_cons 69 = .ok (.ireturn, 1) := by decide +kernel
set_option maxHeartbeats 4000000 in
set_option maxRecDepth 100000 in
theorem p_V_cons (l : Launch) (D : va_G) (dT : Nat → ClassId) (H : Heap) (Bq : Nat → Prop) (vv rg li ed : Nat) (tb : Nat → TR) (tc : Nat) (RV : Nat → Option VT) (hC : cI D dT Bq vv rg li ed tb tc RV H) (hV : vOK tb tc RV) (r f g : Int32) : Met l y_V_cons w_V_cons ({ frames := 5, cells := 1, slots := 5, locals := 107 }) (z_P D dT [.ref vv, .int r, .int f, .int g] H) (z_Q (fun q => q = rg ∨ H.size ≤ q) (fun v H1 => v = some (.int (kp RV r (o_cons tb RV f g)).1) ∧ cI D dT Bq vv rg li ed tb tc (kp RV r (o_cons tb RV f g)).2 H1)) 1 5 (fun q => q = rg ∨ H.size ≤ q) := by
  obtain ⟨⟨hBs, hBr, hBl, hBe, hBv, hrl, hre, hle⟩, hvv, hCR, hCT⟩ := id hC
  have hO := hV.1
  have htc := hO.1
  have htc10 := hO.2.1
  refine Met.ofW (cc := b_V_cons) (maxL := 7) (ret := (Option.some .int)) (by decide) rfl ?_
  intro p e s m args below meth c s₁ B hml hv
  obtain ⟨rfl, rfl, hK⟩ := hv
  have hx := B.exec
  have hb := B.bytes
  have hr := B.returns
  have hts := atoms_spec (ws := w_V_cons) B.pre
  have ht : ∀ w9 ∈ gt, w9.before [.ref vv, .int r, .int f, .int g].toArray s = true := fun w9 h => hts w9 (List.mem_cons_of_mem _ h)
  have hown : s.vm.findClass "ValueTrees" = some m.cls := findClass_of_methodNamed B.named
  have hlocks := B.notSynchronized
  have hS : va_S (fun q => q = rg ∨ s.heap.size ≤ q) s.heap s.heap [] := va_S.rf
  have hl := lv_entry ([.ref vv, .int r, .int f, .int g]) (n := 7) (Nat.le_of_ble_eq_true rfl)
  rw [lg_entry_eq]
  generalize (lg_sl ([.ref vv, .int r, .int f, .int g]) ++ List.replicate (7 - (lg_sl ([.ref vv, .int r, .int f, .int g])).length) Slot.unset).toArray = ls at hl ⊢
  have hl : lv_has ls 7 [(0, .ref vv), (1, .int r), (2, .int f), (3, .int g)] := hl
  have hN : nU s.heap s.heap := nU.rf
  refine lv_aload_n hx hb d_V_cons_0 rfl (lv_at hl 0 rfl) ?_
  refine lv_iload_n hx hb d_V_cons_1 rfl (lv_at hl 2 rfl) ?_
  refine z_callR (va_runV (C := "ValueTrees") (As := [.int f]) (rest := []) ⟨hx, hb, hml, hown, hts⟩ (c_V_held l D dT _ Bq vv rg li ed tb tc RV (hC.up hN) hV f) ⟨callB_of 1 hts (gI gd_up gd_c q275) rfl rfl rfl (ht _ q1) (ht _ q272) hd_V_held ⟨Nat.le_of_ble_eq_true rfl, Nat.le_of_ble_eq_true rfl⟩, ht _ q274, ht _ qs7⟩ (z_preV hK (va_recv hK.1 (z_1 (hvv.grew hN.2)) (ci := 0) (q0 := 0) rfl rfl)) rfl rfl hl.1 rfl (lv_room (Nat.le_of_ble_eq_true rfl)) d_V_cons_2 ⟨Nat.zero_le _, Nat.zero_le _⟩) (fun v2 hv1 => ?_)
  rcases hv1 with ⟨rfl, hr5⟩ | ⟨a3, v4, rfl, hr5, hq4⟩
  · refine lv_astoreN (lv' := [(4, .null), (0, .ref vv), (1, .int r), (2, .int f), (3, .int g)]) hx hb d_V_cons_5 hl (by decide) rfl (fun ls hl => ?_)
    refine lv_aloadN hx hb d_V_cons_7 (lv_at hl 0 rfl) ?_
    refine lv_ifnullN (tgt := 51) hx hb d_V_cons_9 (by decide) ?_
    refine lv_iconst (v := (-1)) hx hb d_V_cons_51 (by decide) ?_
    exact z_iretQ hx hb hr hlocks d_V_cons_52 hS (Nat.le_of_ble_eq_true rfl) (Nat.le_of_ble_eq_true rfl) (by rw [show o_cons tb RV f g = none from (by unfold o_cons; rw [hr5])]; exact ⟨rfl, hC⟩)
  · obtain ⟨ht4, hw4, hl4⟩ := vOK_get hV hr5
    obtain ⟨hh4, hnb4⟩ := rv_hd hw4 hq4
    refine lv_astore (lv' := [(4, .ref a3), (0, .ref vv), (1, .int r), (2, .int f), (3, .int g)]) hx hb d_V_cons_5 hl (by decide) rfl (fun ls hl => ?_)
    refine lv_aload hx hb d_V_cons_7 (lv_at hl 0 rfl) ?_
    refine lv_ifnull hx hb d_V_cons_9 ?_
    refine lv_aload_n hx hb d_V_cons_12 rfl (lv_at hl 1 rfl) ?_
    refine lv_iload_n hx hb d_V_cons_13 rfl (lv_at hl 4 rfl) ?_
    refine z_callR (va_runV (C := "ValueTrees") (As := [.int g]) (rest := []) ⟨hx, hb, hml, hown, hts⟩ (c_V_held l D dT _ Bq vv rg li ed tb tc RV (hC.up hN) hV g) ⟨callB_of 1 hts (gI gd_up gd_c q275) rfl rfl rfl (ht _ q1) (ht _ q272) hd_V_held ⟨Nat.le_of_ble_eq_true rfl, Nat.le_of_ble_eq_true rfl⟩, ht _ q274, ht _ qs7⟩ (z_preV hK (va_recv hK.1 (z_1 (hvv.grew hN.2)) (ci := 0) (q0 := 0) rfl rfl)) rfl rfl hl.1 rfl (lv_room (Nat.le_of_ble_eq_true rfl)) d_V_cons_14 ⟨Nat.zero_le _, Nat.zero_le _⟩) (fun v7 hv6 => ?_)
    rcases hv6 with ⟨rfl, hr10⟩ | ⟨a8, v9, rfl, hr10, hq9⟩
    · refine lv_astoreN (lv' := [(6, .null), (4, .ref a3), (0, .ref vv), (1, .int r), (2, .int f), (3, .int g)]) hx hb d_V_cons_17 hl (by decide) rfl (fun ls hl => ?_)
      refine lv_aloadN hx hb d_V_cons_19 (lv_at hl 0 rfl) ?_
      refine lv_instN hx hb d_V_cons_21 ?_
      refine lv_if_eq (tgt := 51) hx hb d_V_cons_24 (by decide) (fun _ => ?_) (fun c11 => absurd c11 (by decide))
      refine lv_iconst (v := (-1)) hx hb d_V_cons_51 (by decide) ?_
      exact z_iretQ hx hb hr hlocks d_V_cons_52 hS (Nat.le_of_ble_eq_true rfl) (Nat.le_of_ble_eq_true rfl) (by rw [show o_cons tb RV f g = none from (by unfold o_cons; rw [hr5, hr10])]; exact ⟨rfl, hC⟩)
    · obtain ⟨ht9, hw9, hl9⟩ := vOK_get hV hr10
      obtain ⟨hh9, hnb9⟩ := rv_hd hw9 hq9
      obtain ⟨c9, ec9, hc9⟩ := wty_pow hw9
      rw [ec9] at hq9
      cases c9 with
      | num z9 =>
        obtain ⟨d9, oa9, hna9, od9, hnd9⟩ := rv_num.mp hq9
        have hnb9 : nb z9.natAbs ≤ 1024 := nb_lt.mpr hc9.2.2.1
        refine lv_astore (lv' := [(6, .ref a8), (4, .ref a3), (0, .ref vv), (1, .int r), (2, .int f), (3, .int g)]) hx hb d_V_cons_17 hl (by decide) rfl (fun ls hl => ?_)
        refine lv_aload hx hb d_V_cons_19 (lv_at hl 0 rfl) ?_
        refine va_instNo (C := "ValueTrees$Whole") hx hb hown (ht _ q328) (hK.2.1 _ nc_Whole_Chain) (z_recv hK (oa9.grew hN.2) rfl) d_V_cons_21 ?_
        refine lv_if_eq (tgt := 51) hx hb d_V_cons_24 (by decide) (fun _ => ?_) (fun c12 => absurd c12 (by decide))
        refine lv_iconst (v := (-1)) hx hb d_V_cons_51 (by decide) ?_
        exact z_iretQ hx hb hr hlocks d_V_cons_52 hS (Nat.le_of_ble_eq_true rfl) (Nat.le_of_ble_eq_true rfl) (by rw [show o_cons tb RV f g = none from (by unfold o_cons; rw [hr5, hr10]; dsimp only; rw [if_neg (fun h9 => by have h8 := hc9; simp only [wty] at h8; omega)])]; exact ⟨rfl, hC⟩)
      | natCast k9 =>
        obtain ⟨x9, oa9, hna9, hx9⟩ := rv_row.mp hq9
        have hk9 : k9 % 16 ≤ 8 := hc9.2.2.1
        refine lv_astore (lv' := [(6, .ref a8), (4, .ref a3), (0, .ref vv), (1, .int r), (2, .int f), (3, .int g)]) hx hb d_V_cons_17 hl (by decide) rfl (fun ls hl => ?_)
        refine lv_aload hx hb d_V_cons_19 (lv_at hl 0 rfl) ?_
        refine va_instNo (C := "ValueTrees$Row") hx hb hown (ht _ q328) (hK.2.1 _ nc_Row_Chain) (z_recv hK (oa9.grew hN.2) rfl) d_V_cons_21 ?_
        refine lv_if_eq (tgt := 51) hx hb d_V_cons_24 (by decide) (fun _ => ?_) (fun c13 => absurd c13 (by decide))
        refine lv_iconst (v := (-1)) hx hb d_V_cons_51 (by decide) ?_
        exact z_iretQ hx hb hr hlocks d_V_cons_52 hS (Nat.le_of_ble_eq_true rfl) (Nat.le_of_ble_eq_true rfl) (by rw [show o_cons tb RV f g = none from (by unfold o_cons; rw [hr5, hr10]; dsimp only; rw [if_neg (fun h9 => by have h8 := hc9; simp only [wty] at h8; omega)])]; exact ⟨rfl, hC⟩)
      | intCast k9 =>
        obtain ⟨oa9, hna9⟩ := rv_nil.mp hq9
        have h11 : tW (tb (vty v9)) = 11 := by have h9 := hc9; simp only [wty] at h9; omega
        have hlt9 := (tl_some hO ht9 (by omega)).2.1
        refine lv_astore (lv' := [(6, .ref a8), (4, .ref a3), (0, .ref vv), (1, .int r), (2, .int f), (3, .int g)]) hx hb d_V_cons_17 hl (by decide) rfl (fun ls hl => ?_)
        refine lv_aload hx hb d_V_cons_19 (lv_at hl 0 rfl) ?_
        refine va_instE hx hb hown (ht _ q328) (z_recv hK (oa9.grew hN.2) rfl) d_V_cons_21 ?_
        refine lv_if_eq (tgt := 51) hx hb d_V_cons_24 (by decide) (fun c14 => absurd c14 (by decide)) (fun _ => ?_)
        refine lv_aload hx hb d_V_cons_27 (lv_at hl 0 rfl) ?_
        refine va_castE hx hb hown (ht _ q328) (z_recv hK (oa9.grew hN.2) rfl) d_V_cons_29 ?_
        refine lv_astore (lv' := [(5, .ref a8), (6, .ref a8), (4, .ref a3), (0, .ref vv), (1, .int r), (2, .int f), (3, .int g)]) hx hb d_V_cons_32 hl (by decide) rfl (fun ls hl => ?_)
        refine lv_aload hx hb d_V_cons_34 (lv_at hl 2 rfl) ?_
        refine z_vty hx hb ht hown hK (hh4.grew hN.2) (ht _ q235) d_V_cons_36 ?_
        refine lv_aload_n hx hb d_V_cons_39 rfl (lv_at hl 3 rfl) ?_
        refine lv_aload hx hb d_V_cons_40 (lv_at hl 0 rfl) ?_
        refine va_get (D := D) (ci := 6) (v := .int (nI (vty v9))) (C := "ValueTrees$Chain") (T := T_Chain) (N := 5) hx hb ht in_Chain hown hK.1 (z_1 (oa9.grew hN.2)) 0 rfl rfl 0 (by decide) (ht _ q236) (u_same (ht _ q232)) rfl d_V_cons_42 ?_
        refine z_callR (va_runV (C := "ValueTrees") (As := [.int (nI (vty v9))]) (rest := [.int (nI (vty v4))]) ⟨hx, hb, hml, hown, hts⟩ (c_V_leftOf l D dT _ Bq vv rg li ed tb tc RV (hC.up hN) hV (nI (vty v9))) ⟨callB_of 1 hts (gI gd_up gd_c q375) rfl rfl rfl (ht _ q1) (ht _ q372) hd_V_leftOf ⟨Nat.le_of_ble_eq_true rfl, Nat.le_of_ble_eq_true rfl⟩, ht _ q374, ht _ qs10⟩ (z_preV hK (va_recv hK.1 (z_1 (hvv.grew hN.2)) (ci := 0) (q0 := 0) rfl rfl)) rfl rfl hl.1 rfl (lv_room (Nat.le_of_ble_eq_true rfl)) d_V_cons_45 ⟨Nat.zero_le _, Nat.zero_le _⟩) (fun v16 hv15 => ?_)
        subst hv15
        rw [a_left_ev hO ht9 (by omega)]
        refine lv_icmp_eq (tgt := 53) hx hb d_V_cons_48 (by decide) (fun c17 => ?_) (fun c17 => ?_)
        · have nc17 : (vty v4) = (lt_ tb (vty v9)) := (nI_eq (a := (vty v4)) (b := (lt_ tb (vty v9))) (by omega) (by omega)).mp c17
          refine lv_aload_n hx hb d_V_cons_53 rfl (lv_at hl 3 rfl) ?_
          refine lv_iload_n hx hb d_V_cons_54 rfl (lv_at hl 4 rfl) ?_
          have hSp := hS
          refine z_newo (ci := 6) hx hb ht in_Chain ty_Chain tyk_Chain hown (ht _ q328) (ht _ q329) (ht _ q17) hK hS rfl fs_Chain (Nat.le_of_ble_eq_true rfl) (Nat.le_of_ble_eq_true rfl) d_V_cons_55 (fun ad18 H hqad18 hzad18 oad18 hoad18 hS => ?_)
          have hgad18 : s.heap.size ≤ ad18 := by rw [hqad18]; exact hSp.1
          have hAad18 : (fun q => q = rg ∨ s.heap.size ≤ q) ad18 := (Or.inr hgad18)
          have hgbad18 := Nat.le_trans hN.1 (Nat.le_of_eq hqad18.symm)
          have hN := hN.grew hzad18 hoad18
          refine lv_dup hx hb d_V_cons_58 rfl ?_
          refine lv_aload hx hb d_V_cons_59 (lv_at hl 2 rfl) ?_
          refine lv_aload hx hb d_V_cons_61 (lv_at hl 0 rfl) ?_
          refine z_callQ (va_runI (As := [.ref a3, .ref a8]) (rest := [.ref ad18, .int r, .ref vv]) ⟨hx, hb, hml, hown, hts⟩ (c_Chain_init2 l D dT _ ad18 oad18 a3 a8 (nI (vty v4)) (nI (cs v4).length) (hh4.grew hN.2) (nI (vty v9)) (wlen (.intCast k9) (vty v9)) 0 .null .null (oa9.grew hN.2) (Nat.ne_of_lt (Nat.lt_of_lt_of_le hh9.lt hgad18))) ⟨callB_of 2 hts (gI gd_up gd_c q411) rfl rfl rfl (ht _ q17) (ht _ q409) hd_Chain_init2 ⟨Nat.le_of_ble_eq_true rfl, Nat.le_of_ble_eq_true rfl⟩, rfl, ht _ q410⟩ (z_preS hK) rfl rfl hl.1 rfl (lv_room (Nat.le_of_ble_eq_true rfl)) d_V_cons_63 ⟨(Nat.le_of_ble_eq_true rfl), (Nat.le_of_ble_eq_true rfl)⟩) hS (fun q9 h9 => by rw [show q9 = ad18 from h9]; exact hAad18) (fun v20 H locs hv19 hz21 hf22 hS => ?_)
          obtain ⟨rfl, oad18⟩ := hv19
          have oad18 : va_at D cls (ad18, .inr (6, [.int (nI (vty v9)), .int ((wlen (.intCast k9) (vty v9)) + (nI (cs v4).length)), .ref a3, .ref a8, .int (0 + 1)])) H := oad18
          have hN := hN.call hz21 hf22 (fun x hx h9 => by have h8 : x = ad18 := h9; omega)
          refine W.eq (g2 := F0 m 66 ls [.ref ad18, .int r, .ref vv]) rfl ?_
          have hve : wty tb v4 0 (lt_ tb (vty v9)) := by rw [← nc17]; exact hw4
          have hwl := wl_cons hve hc9 h11
          have hwx : wty tb (.pow (.mul v4 (.intCast k9)) (vty v9)) 0 (vty v9) := ⟨rfl, rfl, Or.inl ⟨rfl, h11, hve, hc9⟩⟩
          have hrx : rv D dT Bq H (.pow (.mul v4 (.intCast k9)) (vty v9)) ad18 := rv_mul.mpr ⟨a3, a8, by rw [hwl.1, hwl.2]; exact oad18, (fun h9 => absurd (hBs _ h9) (Nat.not_lt.mpr hgad18)), rq_up hN.2 hq4, rq_up hN.2 hq9⟩
          have hlx : (cs (.pow (.intCast k9) (vty v9))).length ≤ 160 := by rw [← ec9]; exact hl9
          have hlx2 : (cs (.pow (.mul v4 (.intCast k9)) (vty v9))).length = (cs (.pow (.intCast k9) (vty v9))).length + (cs v4).length := by rw [l_mul, cs_mul, eb_pow hve, List.length_append]; rw [l_nil]; show 5 + (_ + 0) = _; omega
          refine z_callQ (va_runV (C := "ValueTrees") (As := [.int r, .ref ad18]) (rest := []) ⟨hx, hb, hml, hown, hts⟩ (c_V_keep_r l D dT _ Bq vv rg li ed tb tc RV (hC.up hN) hV r (.pow (.mul v4 (.intCast k9)) (vty v9)) (vty v9) ad18 hwx hrx (by omega)) ⟨callB_of 2 hts (gI gd_up gd_c q264) rfl rfl rfl (ht _ q1) (ht _ q261) hd_V_keep ⟨Nat.le_of_ble_eq_true rfl, Nat.le_of_ble_eq_true rfl⟩, ht _ q263, ht _ qs6⟩ (z_preV hK (va_recv hK.1 (z_1 (hvv.grew hN.2)) (ci := 0) (q0 := 0) rfl rfl)) rfl rfl hl.1 rfl (lv_room (Nat.le_of_ble_eq_true rfl)) d_V_cons_66 ⟨(Nat.le_of_ble_eq_true rfl), (Nat.le_of_ble_eq_true rfl)⟩) hS (fun _ h9 => Or.inl h9) (fun v24 H locs hv23 hz25 hf26 hS => ?_)
          obtain ⟨rfl, hC⟩ := hv23
          refine W.eq (g2 := F0 m 69 ls [.int ((kp RV r (some (.pow (.mul v4 (.intCast k9)) (vty v9)))).1)]) rfl ?_
          exact z_iretQ hx hb hr hlocks d_V_cons_69 hS (Nat.le_of_ble_eq_true rfl) (Nat.le_of_ble_eq_true rfl) (by rw [show o_cons tb RV f g = some (.pow (.mul v4 (.intCast k9)) (vty v9)) from (by unfold o_cons; rw [hr5, hr10]; dsimp only; rw [if_pos ⟨h11, nc17⟩, show coreOf v9 = (.intCast k9) by rw [ec9]; rfl])]; exact ⟨rfl, hC⟩)
        · have nc17 : ¬ (vty v4) = (lt_ tb (vty v9)) := fun h9 => c17 ((nI_eq (a := (vty v4)) (b := (lt_ tb (vty v9))) (by omega) (by omega)).mpr h9)
          refine lv_iconst (v := (-1)) hx hb d_V_cons_51 (by decide) ?_
          exact z_iretQ hx hb hr hlocks d_V_cons_52 hS (Nat.le_of_ble_eq_true rfl) (Nat.le_of_ble_eq_true rfl) (by rw [show o_cons tb RV f g = none from (by unfold o_cons; rw [hr5, hr10]; dsimp only; rw [if_neg (fun h9 => nc17 h9.2)])]; exact ⟨rfl, hC⟩)
      | var i9 =>
        obtain ⟨oa9, hna9⟩ := rv_var.mp hq9
        refine lv_astore (lv' := [(6, .ref a8), (4, .ref a3), (0, .ref vv), (1, .int r), (2, .int f), (3, .int g)]) hx hb d_V_cons_17 hl (by decide) rfl (fun ls hl => ?_)
        refine lv_aload hx hb d_V_cons_19 (lv_at hl 0 rfl) ?_
        refine va_instNo (C := "ValueTrees$Choice") hx hb hown (ht _ q328) (hK.2.1 _ nc_Choice_Chain) (z_recv hK (oa9.grew hN.2) rfl) d_V_cons_21 ?_
        refine lv_if_eq (tgt := 51) hx hb d_V_cons_24 (by decide) (fun _ => ?_) (fun c27 => absurd c27 (by decide))
        refine lv_iconst (v := (-1)) hx hb d_V_cons_51 (by decide) ?_
        exact z_iretQ hx hb hr hlocks d_V_cons_52 hS (Nat.le_of_ble_eq_true rfl) (Nat.le_of_ble_eq_true rfl) (by rw [show o_cons tb RV f g = none from (by unfold o_cons; rw [hr5, hr10]; dsimp only; rw [if_neg (fun h9 => by have h8 := hc9; simp only [wty] at h8; omega)])]; exact ⟨rfl, hC⟩)
      | neg ch9 =>
        obtain ⟨e9, f9, oa9, hna9, oe9, hne9, hch9⟩ := rv_neg.mp hq9
        refine lv_astore (lv' := [(6, .ref a8), (4, .ref a3), (0, .ref vv), (1, .int r), (2, .int f), (3, .int g)]) hx hb d_V_cons_17 hl (by decide) rfl (fun ls hl => ?_)
        refine lv_aload hx hb d_V_cons_19 (lv_at hl 0 rfl) ?_
        refine va_instNo (C := "ValueTrees$Tree") hx hb hown (ht _ q328) (hK.2.1 _ nc_Tree_Chain) (z_recv hK (oa9.grew hN.2) rfl) d_V_cons_21 ?_
        refine lv_if_eq (tgt := 51) hx hb d_V_cons_24 (by decide) (fun _ => ?_) (fun c28 => absurd c28 (by decide))
        refine lv_iconst (v := (-1)) hx hb d_V_cons_51 (by decide) ?_
        exact z_iretQ hx hb hr hlocks d_V_cons_52 hS (Nat.le_of_ble_eq_true rfl) (Nat.le_of_ble_eq_true rfl) (by rw [show o_cons tb RV f g = none from (by unfold o_cons; rw [hr5, hr10]; dsimp only; rw [if_neg (fun h9 => by have h8 := hc9; simp only [wty] at h8; omega)])]; exact ⟨rfl, hC⟩)
      | add x9 y9 =>
        obtain ⟨b9, d9, oa9, hna9, hb9, hd9⟩ := rv_add.mp hq9
        refine lv_astore (lv' := [(6, .ref a8), (4, .ref a3), (0, .ref vv), (1, .int r), (2, .int f), (3, .int g)]) hx hb d_V_cons_17 hl (by decide) rfl (fun ls hl => ?_)
        refine lv_aload hx hb d_V_cons_19 (lv_at hl 0 rfl) ?_
        refine va_instNo (C := "ValueTrees$Couple") hx hb hown (ht _ q328) (hK.2.1 _ nc_Couple_Chain) (z_recv hK (oa9.grew hN.2) rfl) d_V_cons_21 ?_
        refine lv_if_eq (tgt := 51) hx hb d_V_cons_24 (by decide) (fun _ => ?_) (fun c29 => absurd c29 (by decide))
        refine lv_iconst (v := (-1)) hx hb d_V_cons_51 (by decide) ?_
        exact z_iretQ hx hb hr hlocks d_V_cons_52 hS (Nat.le_of_ble_eq_true rfl) (Nat.le_of_ble_eq_true rfl) (by rw [show o_cons tb RV f g = none from (by unfold o_cons; rw [hr5, hr10]; dsimp only; rw [if_neg (fun h9 => by have h8 := hc9; simp only [wty] at h8; omega)])]; exact ⟨rfl, hC⟩)
      | sub a9 x9 =>
        obtain ⟨b9, oa9, hna9, hb9⟩ := rv_sub.mp hq9
        refine lv_astore (lv' := [(6, .ref a8), (4, .ref a3), (0, .ref vv), (1, .int r), (2, .int f), (3, .int g)]) hx hb d_V_cons_17 hl (by decide) rfl (fun ls hl => ?_)
        refine lv_aload hx hb d_V_cons_19 (lv_at hl 0 rfl) ?_
        refine va_instNo (C := "ValueTrees$Choice") hx hb hown (ht _ q328) (hK.2.1 _ nc_Choice_Chain) (z_recv hK (oa9.grew hN.2) rfl) d_V_cons_21 ?_
        refine lv_if_eq (tgt := 51) hx hb d_V_cons_24 (by decide) (fun _ => ?_) (fun c30 => absurd c30 (by decide))
        refine lv_iconst (v := (-1)) hx hb d_V_cons_51 (by decide) ?_
        exact z_iretQ hx hb hr hlocks d_V_cons_52 hS (Nat.le_of_ble_eq_true rfl) (Nat.le_of_ble_eq_true rfl) (by rw [show o_cons tb RV f g = none from (by unfold o_cons; rw [hr5, hr10]; dsimp only; rw [if_neg (fun h9 => by have h8 := hc9; simp only [wty] at h8; omega)])]; exact ⟨rfl, hC⟩)
      | mul x9 y9 =>
        obtain ⟨b9, d9, oa9, hna9, hb9, hd9⟩ := rv_mul.mp hq9
        have h11 : tW (tb (vty v9)) = 11 := by have h9 := hc9; simp only [wty] at h9; omega
        have hlt9 := (tl_some hO ht9 (by omega)).2.1
        refine lv_astore (lv' := [(6, .ref a8), (4, .ref a3), (0, .ref vv), (1, .int r), (2, .int f), (3, .int g)]) hx hb d_V_cons_17 hl (by decide) rfl (fun ls hl => ?_)
        refine lv_aload hx hb d_V_cons_19 (lv_at hl 0 rfl) ?_
        refine va_instE hx hb hown (ht _ q328) (z_recv hK (oa9.grew hN.2) rfl) d_V_cons_21 ?_
        refine lv_if_eq (tgt := 51) hx hb d_V_cons_24 (by decide) (fun c31 => absurd c31 (by decide)) (fun _ => ?_)
        refine lv_aload hx hb d_V_cons_27 (lv_at hl 0 rfl) ?_
        refine va_castE hx hb hown (ht _ q328) (z_recv hK (oa9.grew hN.2) rfl) d_V_cons_29 ?_
        refine lv_astore (lv' := [(5, .ref a8), (6, .ref a8), (4, .ref a3), (0, .ref vv), (1, .int r), (2, .int f), (3, .int g)]) hx hb d_V_cons_32 hl (by decide) rfl (fun ls hl => ?_)
        refine lv_aload hx hb d_V_cons_34 (lv_at hl 2 rfl) ?_
        refine z_vty hx hb ht hown hK (hh4.grew hN.2) (ht _ q235) d_V_cons_36 ?_
        refine lv_aload_n hx hb d_V_cons_39 rfl (lv_at hl 3 rfl) ?_
        refine lv_aload hx hb d_V_cons_40 (lv_at hl 0 rfl) ?_
        refine va_get (D := D) (ci := 6) (v := .int (nI (vty v9))) (C := "ValueTrees$Chain") (T := T_Chain) (N := 5) hx hb ht in_Chain hown hK.1 (z_1 (oa9.grew hN.2)) 0 rfl rfl 0 (by decide) (ht _ q236) (u_same (ht _ q232)) rfl d_V_cons_42 ?_
        refine z_callR (va_runV (C := "ValueTrees") (As := [.int (nI (vty v9))]) (rest := [.int (nI (vty v4))]) ⟨hx, hb, hml, hown, hts⟩ (c_V_leftOf l D dT _ Bq vv rg li ed tb tc RV (hC.up hN) hV (nI (vty v9))) ⟨callB_of 1 hts (gI gd_up gd_c q375) rfl rfl rfl (ht _ q1) (ht _ q372) hd_V_leftOf ⟨Nat.le_of_ble_eq_true rfl, Nat.le_of_ble_eq_true rfl⟩, ht _ q374, ht _ qs10⟩ (z_preV hK (va_recv hK.1 (z_1 (hvv.grew hN.2)) (ci := 0) (q0 := 0) rfl rfl)) rfl rfl hl.1 rfl (lv_room (Nat.le_of_ble_eq_true rfl)) d_V_cons_45 ⟨Nat.zero_le _, Nat.zero_le _⟩) (fun v33 hv32 => ?_)
        subst hv32
        rw [a_left_ev hO ht9 (by omega)]
        refine lv_icmp_eq (tgt := 53) hx hb d_V_cons_48 (by decide) (fun c34 => ?_) (fun c34 => ?_)
        · have nc34 : (vty v4) = (lt_ tb (vty v9)) := (nI_eq (a := (vty v4)) (b := (lt_ tb (vty v9))) (by omega) (by omega)).mp c34
          refine lv_aload_n hx hb d_V_cons_53 rfl (lv_at hl 3 rfl) ?_
          refine lv_iload_n hx hb d_V_cons_54 rfl (lv_at hl 4 rfl) ?_
          have hSp := hS
          refine z_newo (ci := 6) hx hb ht in_Chain ty_Chain tyk_Chain hown (ht _ q328) (ht _ q329) (ht _ q17) hK hS rfl fs_Chain (Nat.le_of_ble_eq_true rfl) (Nat.le_of_ble_eq_true rfl) d_V_cons_55 (fun ad35 H hqad35 hzad35 oad35 hoad35 hS => ?_)
          have hgad35 : s.heap.size ≤ ad35 := by rw [hqad35]; exact hSp.1
          have hAad35 : (fun q => q = rg ∨ s.heap.size ≤ q) ad35 := (Or.inr hgad35)
          have hgbad35 := Nat.le_trans hN.1 (Nat.le_of_eq hqad35.symm)
          have hN := hN.grew hzad35 hoad35
          refine lv_dup hx hb d_V_cons_58 rfl ?_
          refine lv_aload hx hb d_V_cons_59 (lv_at hl 2 rfl) ?_
          refine lv_aload hx hb d_V_cons_61 (lv_at hl 0 rfl) ?_
          refine z_callQ (va_runI (As := [.ref a3, .ref a8]) (rest := [.ref ad35, .int r, .ref vv]) ⟨hx, hb, hml, hown, hts⟩ (c_Chain_init2 l D dT _ ad35 oad35 a3 a8 (nI (vty v4)) (nI (cs v4).length) (hh4.grew hN.2) (nI (vty v9)) (wlen (.mul x9 y9) (vty v9)) (nI (clen (.mul x9 y9))) (.ref b9) (.ref d9) (oa9.grew hN.2) (Nat.ne_of_lt (Nat.lt_of_lt_of_le hh9.lt hgad35))) ⟨callB_of 2 hts (gI gd_up gd_c q411) rfl rfl rfl (ht _ q17) (ht _ q409) hd_Chain_init2 ⟨Nat.le_of_ble_eq_true rfl, Nat.le_of_ble_eq_true rfl⟩, rfl, ht _ q410⟩ (z_preS hK) rfl rfl hl.1 rfl (lv_room (Nat.le_of_ble_eq_true rfl)) d_V_cons_63 ⟨(Nat.le_of_ble_eq_true rfl), (Nat.le_of_ble_eq_true rfl)⟩) hS (fun q9 h9 => by rw [show q9 = ad35 from h9]; exact hAad35) (fun v37 H locs hv36 hz38 hf39 hS => ?_)
          obtain ⟨rfl, oad35⟩ := hv36
          have oad35 : va_at D cls (ad35, .inr (6, [.int (nI (vty v9)), .int ((wlen (.mul x9 y9) (vty v9)) + (nI (cs v4).length)), .ref a3, .ref a8, .int ((nI (clen (.mul x9 y9))) + 1)])) H := oad35
          have hN := hN.call hz38 hf39 (fun x hx h9 => by have h8 : x = ad35 := h9; omega)
          refine W.eq (g2 := F0 m 66 ls [.ref ad35, .int r, .ref vv]) rfl ?_
          have hve : wty tb v4 0 (lt_ tb (vty v9)) := by rw [← nc34]; exact hw4
          have hwl := wl_cons hve hc9 h11
          have hwx : wty tb (.pow (.mul v4 (.mul x9 y9)) (vty v9)) 0 (vty v9) := ⟨rfl, rfl, Or.inl ⟨rfl, h11, hve, hc9⟩⟩
          have hrx : rv D dT Bq H (.pow (.mul v4 (.mul x9 y9)) (vty v9)) ad35 := rv_mul.mpr ⟨a3, a8, by rw [hwl.1, hwl.2]; exact oad35, (fun h9 => absurd (hBs _ h9) (Nat.not_lt.mpr hgad35)), rq_up hN.2 hq4, rq_up hN.2 hq9⟩
          have hlx : (cs (.pow (.mul x9 y9) (vty v9))).length ≤ 160 := by rw [← ec9]; exact hl9
          have hlx2 : (cs (.pow (.mul v4 (.mul x9 y9)) (vty v9))).length = (cs (.pow (.mul x9 y9) (vty v9))).length + (cs v4).length := by rw [l_mul, cs_mul, eb_pow hve, List.length_append]; rw [l_mul]; omega
          refine z_callQ (va_runV (C := "ValueTrees") (As := [.int r, .ref ad35]) (rest := []) ⟨hx, hb, hml, hown, hts⟩ (c_V_keep_r l D dT _ Bq vv rg li ed tb tc RV (hC.up hN) hV r (.pow (.mul v4 (.mul x9 y9)) (vty v9)) (vty v9) ad35 hwx hrx (by omega)) ⟨callB_of 2 hts (gI gd_up gd_c q264) rfl rfl rfl (ht _ q1) (ht _ q261) hd_V_keep ⟨Nat.le_of_ble_eq_true rfl, Nat.le_of_ble_eq_true rfl⟩, ht _ q263, ht _ qs6⟩ (z_preV hK (va_recv hK.1 (z_1 (hvv.grew hN.2)) (ci := 0) (q0 := 0) rfl rfl)) rfl rfl hl.1 rfl (lv_room (Nat.le_of_ble_eq_true rfl)) d_V_cons_66 ⟨(Nat.le_of_ble_eq_true rfl), (Nat.le_of_ble_eq_true rfl)⟩) hS (fun _ h9 => Or.inl h9) (fun v41 H locs hv40 hz42 hf43 hS => ?_)
          obtain ⟨rfl, hC⟩ := hv40
          refine W.eq (g2 := F0 m 69 ls [.int ((kp RV r (some (.pow (.mul v4 (.mul x9 y9)) (vty v9)))).1)]) rfl ?_
          exact z_iretQ hx hb hr hlocks d_V_cons_69 hS (Nat.le_of_ble_eq_true rfl) (Nat.le_of_ble_eq_true rfl) (by rw [show o_cons tb RV f g = some (.pow (.mul v4 (.mul x9 y9)) (vty v9)) from (by unfold o_cons; rw [hr5, hr10]; dsimp only; rw [if_pos ⟨h11, nc34⟩, show coreOf v9 = (.mul x9 y9) by rw [ec9]; rfl])]; exact ⟨rfl, hC⟩)
        · have nc34 : ¬ (vty v4) = (lt_ tb (vty v9)) := fun h9 => c34 ((nI_eq (a := (vty v4)) (b := (lt_ tb (vty v9))) (by omega) (by omega)).mpr h9)
          refine lv_iconst (v := (-1)) hx hb d_V_cons_51 (by decide) ?_
          exact z_iretQ hx hb hr hlocks d_V_cons_52 hS (Nat.le_of_ble_eq_true rfl) (Nat.le_of_ble_eq_true rfl) (by rw [show o_cons tb RV f g = none from (by unfold o_cons; rw [hr5, hr10]; dsimp only; rw [if_neg (fun h9 => nc34 h9.2)])]; exact ⟨rfl, hC⟩)
      | pow c8 t8 => exact absurd hc9.1 (by decide)
abbrev b_V_part : ByteArray := prog_1_method_14_code
abbrev y_V_part : MethodName := ⟨"ValueTrees", "part", "(III)I"⟩
abbrev w_V_part : List Cond := .code y_V_part b_V_part 9 (Option.some .int) :: gt
theorem hd_V_part : (y_V_part).cls ≠ "java/lang/invoke/MethodHandle" ∧ (y_V_part).cls ≠ "java/lang/invoke/VarHandle" ∧ (parseMethodDescriptor (y_V_part).desc).map (fun d => d.parameters.length) = some 3 := by decide +kernel
theorem d_V_part_0 : decode b_V_part 0 = .ok (.aload_n 0, 1) := by decide +kernel
theorem d_V_part_1 : decode b_V_part 1 = .ok (.iload_n 2, 1) := by decide +kernel
theorem d_V_part_2 : decode b_V_part 2 = .ok (.invokevirtual 77, 3) := by decide +kernel
theorem d_V_part_5 : decode b_V_part 5 = .ok (.astore 4, 2) := by decide +kernel
theorem d_V_part_7 : decode b_V_part 7 = .ok (.aconst_null, 1) := by decide +kernel
theorem d_V_part_8 : decode b_V_part 8 = .ok (.astore 5, 2) := by decide +kernel
theorem d_V_part_10 : decode b_V_part 10 = .ok (.aload 4, 2) := by decide +kernel
theorem d_V_part_12 : decode b_V_part 12 = .ok (.instanceof 104, 3) := by decide +kernel
theorem d_V_part_15 : decode b_V_part 15 = .ok (.ifCond .eq 25, 3) := by decide +kernel
theorem d_V_part_18 : decode b_V_part 18 = .ok (.aload 4, 2) := by decide +kernel
theorem d_V_part_20 : decode b_V_part 20 = .ok (.checkcast 104, 3) := by decide +kernel
theorem d_V_part_23 : decode b_V_part 23 = .ok (.astore 6, 2) := by decide +kernel
theorem d_V_part_25 : decode b_V_part 25 = .ok (.iload_n 3, 1) := by decide +kernel
theorem d_V_part_26 : decode b_V_part 26 = .ok (.aload 6, 2) := by decide +kernel
theorem d_V_part_28 : decode b_V_part 28 = .ok (.getfield 177, 3) := by decide +kernel
theorem d_V_part_31 : decode b_V_part 31 = .ok (.aconst_null, 1) := by decide +kernel
theorem d_V_part_32 : decode b_V_part 32 = .ok (.invokestatic 181, 3) := by decide +kernel
theorem d_V_part_35 : decode b_V_part 35 = .ok (.astore 5, 2) := by decide +kernel
theorem d_V_part_37 : decode b_V_part 37 = .ok (.goto 68, 3) := by decide +kernel
theorem d_V_part_40 : decode b_V_part 40 = .ok (.aload 4, 2) := by decide +kernel
theorem d_V_part_42 : decode b_V_part 42 = .ok (.instanceof 135, 3) := by decide +kernel
theorem d_V_part_45 : decode b_V_part 45 = .ok (.ifCond .eq 29, 3) := by decide +kernel
theorem d_V_part_48 : decode b_V_part 48 = .ok (.aload 4, 2) := by decide +kernel
theorem d_V_part_50 : decode b_V_part 50 = .ok (.checkcast 135, 3) := by decide +kernel
theorem d_V_part_53 : decode b_V_part 53 = .ok (.astore 7, 2) := by decide +kernel
theorem d_V_part_55 : decode b_V_part 55 = .ok (.iload_n 3, 1) := by decide +kernel
theorem d_V_part_56 : decode b_V_part 56 = .ok (.aload 7, 2) := by decide +kernel
theorem d_V_part_58 : decode b_V_part 58 = .ok (.getfield 185, 3) := by decide +kernel
theorem d_V_part_61 : decode b_V_part 61 = .ok (.aload 7, 2) := by decide +kernel
theorem d_V_part_63 : decode b_V_part 63 = .ok (.getfield 188, 3) := by decide +kernel
theorem d_V_part_66 : decode b_V_part 66 = .ok (.invokestatic 181, 3) := by decide +kernel
theorem d_V_part_69 : decode b_V_part 69 = .ok (.astore 5, 2) := by decide +kernel
theorem d_V_part_71 : decode b_V_part 71 = .ok (.goto 34, 3) := by decide +kernel
theorem d_V_part_74 : decode b_V_part 74 = .ok (.aload 4, 2) := by decide +kernel
theorem d_V_part_76 : decode b_V_part 76 = .ok (.instanceof 113, 3) := by decide +kernel
theorem d_V_part_79 : decode b_V_part 79 = .ok (.ifCond .eq 26, 3) := by decide +kernel
theorem d_V_part_82 : decode b_V_part 82 = .ok (.aload 4, 2) := by decide +kernel
theorem d_V_part_84 : decode b_V_part 84 = .ok (.checkcast 113, 3) := by decide +kernel
theorem d_V_part_87 : decode b_V_part 87 = .ok (.astore 8, 2) := by decide +kernel
theorem d_V_part_89 : decode b_V_part 89 = .ok (.iload_n 3, 1) := by decide +kernel
theorem d_V_part_90 : decode b_V_part 90 = .ok (.aload 8, 2) := by decide +kernel
theorem d_V_part_92 : decode b_V_part 92 = .ok (.getfield 191, 3) := by decide +kernel
theorem d_V_part_95 : decode b_V_part 95 = .ok (.aload 8, 2) := by decide +kernel
theorem d_V_part_97 : decode b_V_part 97 = .ok (.getfield 192, 3) := by decide +kernel
theorem d_V_part_100 : decode b_V_part 100 = .ok (.invokestatic 181, 3) := by decide +kernel
theorem d_V_part_103 : decode b_V_part 103 = .ok (.astore 5, 2) := by decide +kernel
theorem d_V_part_105 : decode b_V_part 105 = .ok (.aload_n 0, 1) := by decide +kernel
theorem d_V_part_106 : decode b_V_part 106 = .ok (.iload_n 1, 1) := by decide +kernel
theorem d_V_part_107 : decode b_V_part 107 = .ok (.aload 5, 2) := by decide +kernel
theorem d_V_part_109 : decode b_V_part 109 = .ok (.invokevirtual 73, 3) := by decide +kernel
theorem d_V_part_112 : decode b_V_part 112 = .ok (.ireturn, 1) := by decide +kernel
set_option maxHeartbeats 4000000 in
set_option maxRecDepth 100000 in
theorem p_V_part (l : Launch) (D : va_G) (dT : Nat → ClassId) (H : Heap) (Bq : Nat → Prop) (vv rg li ed : Nat) (tb : Nat → TR) (tc : Nat) (RV : Nat → Option VT) (hC : cI D dT Bq vv rg li ed tb tc RV H) (hV : vOK tb tc RV) (r f wh9 : Int32) : Met l y_V_part w_V_part ({ frames := 2, cells := 0, slots := 0, locals := 42 }) (z_P D dT [.ref vv, .int r, .int f, .int wh9] H) (z_Q (fun q => q = rg ∨ H.size ≤ q) (fun v H1 => v = some (.int (kp RV r (o_part RV f wh9)).1) ∧ cI D dT Bq vv rg li ed tb tc (kp RV r (o_part RV f wh9)).2 H1)) 0 0 (fun q => q = rg ∨ H.size ≤ q) := by
  obtain ⟨⟨hBs, hBr, hBl, hBe, hBv, hrl, hre, hle⟩, hvv, hCR, hCT⟩ := id hC
  have hO := hV.1
  have htc := hO.1
  have htc10 := hO.2.1
  refine Met.ofW (cc := b_V_part) (maxL := 9) (ret := (Option.some .int)) (by decide) rfl ?_
  intro p e s m args below meth c s₁ B hml hv
  obtain ⟨rfl, rfl, hK⟩ := hv
  have hx := B.exec
  have hb := B.bytes
  have hr := B.returns
  have hts := atoms_spec (ws := w_V_part) B.pre
  have ht : ∀ w9 ∈ gt, w9.before [.ref vv, .int r, .int f, .int wh9].toArray s = true := fun w9 h => hts w9 (List.mem_cons_of_mem _ h)
  have hown : s.vm.findClass "ValueTrees" = some m.cls := findClass_of_methodNamed B.named
  have hlocks := B.notSynchronized
  have hS : va_S (fun q => q = rg ∨ s.heap.size ≤ q) s.heap s.heap [] := va_S.rf
  have hl := lv_entry ([.ref vv, .int r, .int f, .int wh9]) (n := 9) (Nat.le_of_ble_eq_true rfl)
  rw [lg_entry_eq]
  generalize (lg_sl ([.ref vv, .int r, .int f, .int wh9]) ++ List.replicate (9 - (lg_sl ([.ref vv, .int r, .int f, .int wh9])).length) Slot.unset).toArray = ls at hl ⊢
  have hl : lv_has ls 9 [(0, .ref vv), (1, .int r), (2, .int f), (3, .int wh9)] := hl
  have hN : nU s.heap s.heap := nU.rf
  refine lv_aload_n hx hb d_V_part_0 rfl (lv_at hl 0 rfl) ?_
  refine lv_iload_n hx hb d_V_part_1 rfl (lv_at hl 2 rfl) ?_
  refine z_callR (va_runV (C := "ValueTrees") (As := [.int f]) (rest := []) ⟨hx, hb, hml, hown, hts⟩ (c_V_held l D dT _ Bq vv rg li ed tb tc RV (hC.up hN) hV f) ⟨callB_of 1 hts (gI gd_up gd_c q275) rfl rfl rfl (ht _ q1) (ht _ q272) hd_V_held ⟨Nat.le_of_ble_eq_true rfl, Nat.le_of_ble_eq_true rfl⟩, ht _ q274, ht _ qs7⟩ (z_preV hK (va_recv hK.1 (z_1 (hvv.grew hN.2)) (ci := 0) (q0 := 0) rfl rfl)) rfl rfl hl.1 rfl (lv_room (Nat.le_of_ble_eq_true rfl)) d_V_part_2 ⟨Nat.zero_le _, Nat.zero_le _⟩) (fun v2 hv1 => ?_)
  rcases hv1 with ⟨rfl, hr5⟩ | ⟨a3, v4, rfl, hr5, hq4⟩
  · refine lv_astoreN (lv' := [(4, .null), (0, .ref vv), (1, .int r), (2, .int f), (3, .int wh9)]) hx hb d_V_part_5 hl (by decide) rfl (fun ls hl => ?_)
    refine lv_null hx hb d_V_part_7 ?_
    refine lv_astoreN (lv' := [(5, .null), (4, .null), (0, .ref vv), (1, .int r), (2, .int f), (3, .int wh9)]) hx hb d_V_part_8 hl (by decide) rfl (fun ls hl => ?_)
    refine lv_aloadN hx hb d_V_part_10 (lv_at hl 1 rfl) ?_
    refine lv_instN hx hb d_V_part_12 ?_
    refine lv_if_eq (tgt := 40) hx hb d_V_part_15 (by decide) (fun _ => ?_) (fun c6 => absurd c6 (by decide))
    refine lv_aloadN hx hb d_V_part_40 (lv_at hl 1 rfl) ?_
    refine lv_instN hx hb d_V_part_42 ?_
    refine lv_if_eq (tgt := 74) hx hb d_V_part_45 (by decide) (fun _ => ?_) (fun c7 => absurd c7 (by decide))
    refine lv_aloadN hx hb d_V_part_74 (lv_at hl 1 rfl) ?_
    refine lv_instN hx hb d_V_part_76 ?_
    refine lv_if_eq (tgt := 105) hx hb d_V_part_79 (by decide) (fun _ => ?_) (fun c8 => absurd c8 (by decide))
    refine lv_aload_n hx hb d_V_part_105 rfl (lv_at hl 2 rfl) ?_
    refine lv_iload_n hx hb d_V_part_106 rfl (lv_at hl 3 rfl) ?_
    refine lv_aloadN hx hb d_V_part_107 (lv_at hl 0 rfl) ?_
    refine z_callQ (va_runV (C := "ValueTrees") (As := [.int r, .null]) (rest := []) ⟨hx, hb, hml, hown, hts⟩ (c_V_keep_n l D dT _ Bq vv rg li ed tb tc RV (hC.up hN) hV r) ⟨callB_of 2 hts (gI gd_up gd_c q264) rfl rfl rfl (ht _ q1) (ht _ q261) hd_V_keep ⟨Nat.le_of_ble_eq_true rfl, Nat.le_of_ble_eq_true rfl⟩, ht _ q263, ht _ qs6⟩ (z_preV hK (va_recv hK.1 (z_1 (hvv.grew hN.2)) (ci := 0) (q0 := 0) rfl rfl)) rfl rfl hl.1 rfl (lv_room (Nat.le_of_ble_eq_true rfl)) d_V_part_109 ⟨(Nat.le_of_ble_eq_true rfl), (Nat.le_of_ble_eq_true rfl)⟩) hS (fun _ h9 => Or.inl h9) (fun v10 H locs hv9 hz11 hf12 hS => ?_)
    obtain ⟨rfl, hC⟩ := hv9
    refine W.eq (g2 := F0 m 112 ls [.int ((kp RV r none).1)]) rfl ?_
    exact z_iretQ hx hb hr hlocks d_V_part_112 hS (Nat.le_of_ble_eq_true rfl) (Nat.le_of_ble_eq_true rfl) (by rw [show o_part RV f wh9 = none from (by unfold o_part; rw [hr5])]; exact ⟨rfl, hC⟩)
  · obtain ⟨ht4, hw4, hl4⟩ := vOK_get hV hr5
    obtain ⟨hh4, hnb4⟩ := rv_hd hw4 hq4
    obtain ⟨c4, ec4, hc4⟩ := wty_pow hw4
    rw [ec4] at hq4
    cases c4 with
    | num z4 =>
      obtain ⟨d4, oa4, hna4, od4, hnd4⟩ := rv_num.mp hq4
      have hnb4 : nb z4.natAbs ≤ 1024 := nb_lt.mpr hc4.2.2.1
      refine lv_astore (lv' := [(4, .ref a3), (0, .ref vv), (1, .int r), (2, .int f), (3, .int wh9)]) hx hb d_V_part_5 hl (by decide) rfl (fun ls hl => ?_)
      refine lv_null hx hb d_V_part_7 ?_
      refine lv_astoreN (lv' := [(5, .null), (4, .ref a3), (0, .ref vv), (1, .int r), (2, .int f), (3, .int wh9)]) hx hb d_V_part_8 hl (by decide) rfl (fun ls hl => ?_)
      refine lv_aload hx hb d_V_part_10 (lv_at hl 1 rfl) ?_
      refine va_instNo (C := "ValueTrees$Whole") hx hb hown (ht _ q303) (hK.2.1 _ nc_Whole_Choice) (z_recv hK (oa4.grew hN.2) rfl) d_V_part_12 ?_
      refine lv_if_eq (tgt := 40) hx hb d_V_part_15 (by decide) (fun _ => ?_) (fun c13 => absurd c13 (by decide))
      refine lv_aload hx hb d_V_part_40 (lv_at hl 1 rfl) ?_
      refine va_instNo (C := "ValueTrees$Whole") hx hb hown (ht _ q387) (hK.2.1 _ nc_Whole_Couple) (z_recv hK (oa4.grew hN.2) rfl) d_V_part_42 ?_
      refine lv_if_eq (tgt := 74) hx hb d_V_part_45 (by decide) (fun _ => ?_) (fun c14 => absurd c14 (by decide))
      refine lv_aload hx hb d_V_part_74 (lv_at hl 1 rfl) ?_
      refine va_instNo (C := "ValueTrees$Whole") hx hb hown (ht _ q328) (hK.2.1 _ nc_Whole_Chain) (z_recv hK (oa4.grew hN.2) rfl) d_V_part_76 ?_
      refine lv_if_eq (tgt := 105) hx hb d_V_part_79 (by decide) (fun _ => ?_) (fun c15 => absurd c15 (by decide))
      refine lv_aload_n hx hb d_V_part_105 rfl (lv_at hl 2 rfl) ?_
      refine lv_iload_n hx hb d_V_part_106 rfl (lv_at hl 3 rfl) ?_
      refine lv_aloadN hx hb d_V_part_107 (lv_at hl 0 rfl) ?_
      refine z_callQ (va_runV (C := "ValueTrees") (As := [.int r, .null]) (rest := []) ⟨hx, hb, hml, hown, hts⟩ (c_V_keep_n l D dT _ Bq vv rg li ed tb tc RV (hC.up hN) hV r) ⟨callB_of 2 hts (gI gd_up gd_c q264) rfl rfl rfl (ht _ q1) (ht _ q261) hd_V_keep ⟨Nat.le_of_ble_eq_true rfl, Nat.le_of_ble_eq_true rfl⟩, ht _ q263, ht _ qs6⟩ (z_preV hK (va_recv hK.1 (z_1 (hvv.grew hN.2)) (ci := 0) (q0 := 0) rfl rfl)) rfl rfl hl.1 rfl (lv_room (Nat.le_of_ble_eq_true rfl)) d_V_part_109 ⟨(Nat.le_of_ble_eq_true rfl), (Nat.le_of_ble_eq_true rfl)⟩) hS (fun _ h9 => Or.inl h9) (fun v17 H locs hv16 hz18 hf19 hS => ?_)
      obtain ⟨rfl, hC⟩ := hv16
      refine W.eq (g2 := F0 m 112 ls [.int ((kp RV r none).1)]) rfl ?_
      exact z_iretQ hx hb hr hlocks d_V_part_112 hS (Nat.le_of_ble_eq_true rfl) (Nat.le_of_ble_eq_true rfl) (by rw [show o_part RV f wh9 = none from (by unfold o_part; rw [hr5, ec4])]; exact ⟨rfl, hC⟩)
    | natCast k4 =>
      obtain ⟨x4, oa4, hna4, hx4⟩ := rv_row.mp hq4
      have hk4 : k4 % 16 ≤ 8 := hc4.2.2.1
      refine lv_astore (lv' := [(4, .ref a3), (0, .ref vv), (1, .int r), (2, .int f), (3, .int wh9)]) hx hb d_V_part_5 hl (by decide) rfl (fun ls hl => ?_)
      refine lv_null hx hb d_V_part_7 ?_
      refine lv_astoreN (lv' := [(5, .null), (4, .ref a3), (0, .ref vv), (1, .int r), (2, .int f), (3, .int wh9)]) hx hb d_V_part_8 hl (by decide) rfl (fun ls hl => ?_)
      refine lv_aload hx hb d_V_part_10 (lv_at hl 1 rfl) ?_
      refine va_instNo (C := "ValueTrees$Row") hx hb hown (ht _ q303) (hK.2.1 _ nc_Row_Choice) (z_recv hK (oa4.grew hN.2) rfl) d_V_part_12 ?_
      refine lv_if_eq (tgt := 40) hx hb d_V_part_15 (by decide) (fun _ => ?_) (fun c20 => absurd c20 (by decide))
      refine lv_aload hx hb d_V_part_40 (lv_at hl 1 rfl) ?_
      refine va_instNo (C := "ValueTrees$Row") hx hb hown (ht _ q387) (hK.2.1 _ nc_Row_Couple) (z_recv hK (oa4.grew hN.2) rfl) d_V_part_42 ?_
      refine lv_if_eq (tgt := 74) hx hb d_V_part_45 (by decide) (fun _ => ?_) (fun c21 => absurd c21 (by decide))
      refine lv_aload hx hb d_V_part_74 (lv_at hl 1 rfl) ?_
      refine va_instNo (C := "ValueTrees$Row") hx hb hown (ht _ q328) (hK.2.1 _ nc_Row_Chain) (z_recv hK (oa4.grew hN.2) rfl) d_V_part_76 ?_
      refine lv_if_eq (tgt := 105) hx hb d_V_part_79 (by decide) (fun _ => ?_) (fun c22 => absurd c22 (by decide))
      refine lv_aload_n hx hb d_V_part_105 rfl (lv_at hl 2 rfl) ?_
      refine lv_iload_n hx hb d_V_part_106 rfl (lv_at hl 3 rfl) ?_
      refine lv_aloadN hx hb d_V_part_107 (lv_at hl 0 rfl) ?_
      refine z_callQ (va_runV (C := "ValueTrees") (As := [.int r, .null]) (rest := []) ⟨hx, hb, hml, hown, hts⟩ (c_V_keep_n l D dT _ Bq vv rg li ed tb tc RV (hC.up hN) hV r) ⟨callB_of 2 hts (gI gd_up gd_c q264) rfl rfl rfl (ht _ q1) (ht _ q261) hd_V_keep ⟨Nat.le_of_ble_eq_true rfl, Nat.le_of_ble_eq_true rfl⟩, ht _ q263, ht _ qs6⟩ (z_preV hK (va_recv hK.1 (z_1 (hvv.grew hN.2)) (ci := 0) (q0 := 0) rfl rfl)) rfl rfl hl.1 rfl (lv_room (Nat.le_of_ble_eq_true rfl)) d_V_part_109 ⟨(Nat.le_of_ble_eq_true rfl), (Nat.le_of_ble_eq_true rfl)⟩) hS (fun _ h9 => Or.inl h9) (fun v24 H locs hv23 hz25 hf26 hS => ?_)
      obtain ⟨rfl, hC⟩ := hv23
      refine W.eq (g2 := F0 m 112 ls [.int ((kp RV r none).1)]) rfl ?_
      exact z_iretQ hx hb hr hlocks d_V_part_112 hS (Nat.le_of_ble_eq_true rfl) (Nat.le_of_ble_eq_true rfl) (by rw [show o_part RV f wh9 = none from (by unfold o_part; rw [hr5, ec4])]; exact ⟨rfl, hC⟩)
    | intCast k4 =>
      obtain ⟨oa4, hna4⟩ := rv_nil.mp hq4
      refine lv_astore (lv' := [(4, .ref a3), (0, .ref vv), (1, .int r), (2, .int f), (3, .int wh9)]) hx hb d_V_part_5 hl (by decide) rfl (fun ls hl => ?_)
      refine lv_null hx hb d_V_part_7 ?_
      refine lv_astoreN (lv' := [(5, .null), (4, .ref a3), (0, .ref vv), (1, .int r), (2, .int f), (3, .int wh9)]) hx hb d_V_part_8 hl (by decide) rfl (fun ls hl => ?_)
      refine lv_aload hx hb d_V_part_10 (lv_at hl 1 rfl) ?_
      refine va_instNo (C := "ValueTrees$Chain") hx hb hown (ht _ q303) (hK.2.1 _ nc_Chain_Choice) (z_recv hK (oa4.grew hN.2) rfl) d_V_part_12 ?_
      refine lv_if_eq (tgt := 40) hx hb d_V_part_15 (by decide) (fun _ => ?_) (fun c27 => absurd c27 (by decide))
      refine lv_aload hx hb d_V_part_40 (lv_at hl 1 rfl) ?_
      refine va_instNo (C := "ValueTrees$Chain") hx hb hown (ht _ q387) (hK.2.1 _ nc_Chain_Couple) (z_recv hK (oa4.grew hN.2) rfl) d_V_part_42 ?_
      refine lv_if_eq (tgt := 74) hx hb d_V_part_45 (by decide) (fun _ => ?_) (fun c28 => absurd c28 (by decide))
      refine lv_aload hx hb d_V_part_74 (lv_at hl 1 rfl) ?_
      refine va_instE hx hb hown (ht _ q328) (z_recv hK (oa4.grew hN.2) rfl) d_V_part_76 ?_
      refine lv_if_eq (tgt := 105) hx hb d_V_part_79 (by decide) (fun c29 => absurd c29 (by decide)) (fun _ => ?_)
      refine lv_aload hx hb d_V_part_82 (lv_at hl 1 rfl) ?_
      refine va_castE hx hb hown (ht _ q328) (z_recv hK (oa4.grew hN.2) rfl) d_V_part_84 ?_
      refine lv_astore (lv' := [(8, .ref a3), (5, .null), (4, .ref a3), (0, .ref vv), (1, .int r), (2, .int f), (3, .int wh9)]) hx hb d_V_part_87 hl (by decide) rfl (fun ls hl => ?_)
      refine lv_iload_n hx hb d_V_part_89 rfl (lv_at hl 6 rfl) ?_
      refine lv_aload hx hb d_V_part_90 (lv_at hl 0 rfl) ?_
      refine va_get (D := D) (ci := 6) (v := .null) (C := "ValueTrees$Chain") (T := T_Chain) (N := 5) hx hb ht in_Chain hown hK.1 (z_1 (oa4.grew hN.2)) 0 rfl rfl 2 (by decide) (ht _ q335) (fun _ h9 => h9) rfl d_V_part_92 ?_
      refine lv_aload hx hb d_V_part_95 (lv_at hl 0 rfl) ?_
      refine va_get (D := D) (ci := 6) (v := .null) (C := "ValueTrees$Chain") (T := T_Chain) (N := 5) hx hb ht in_Chain hown hK.1 (z_1 (oa4.grew hN.2)) 0 rfl rfl 3 (by decide) (ht _ q337) (fun _ h9 => h9) rfl d_V_part_97 ?_
      refine z_callR (va_runS (As := [.int wh9, .null, .null]) (rest := []) ⟨hx, hb, hml, hown, hts⟩ (c_V_oneOf_nn l D dT _ wh9 ) ⟨callB_of 3 hts (gI gd_up gd_c q480) rfl rfl rfl (ht _ q1) (ht _ q478) hd_V_oneOf ⟨Nat.le_of_ble_eq_true rfl, Nat.le_of_ble_eq_true rfl⟩, ht _ q479⟩ (z_preS hK) rfl rfl hl.1 rfl (lv_room (Nat.le_of_ble_eq_true rfl)) d_V_part_100 ⟨Nat.zero_le _, Nat.zero_le _⟩) (fun v31 hv30 => ?_)
      have hv30 : v31 = (if wh9 = 0 then .null else if wh9 = 1 then .null else .null) := hv30
      by_cases hi0 : wh9 = 0
      · rw [if_pos hi0] at hv30
        subst hv30
        refine lv_astoreN (lv' := [(5, .null), (8, .ref a3), (4, .ref a3), (0, .ref vv), (1, .int r), (2, .int f), (3, .int wh9)]) hx hb d_V_part_103 hl (by decide) rfl (fun ls hl => ?_)
        refine lv_aload_n hx hb d_V_part_105 rfl (lv_at hl 3 rfl) ?_
        refine lv_iload_n hx hb d_V_part_106 rfl (lv_at hl 4 rfl) ?_
        refine lv_aloadN hx hb d_V_part_107 (lv_at hl 0 rfl) ?_
        refine z_callQ (va_runV (C := "ValueTrees") (As := [.int r, .null]) (rest := []) ⟨hx, hb, hml, hown, hts⟩ (c_V_keep_n l D dT _ Bq vv rg li ed tb tc RV (hC.up hN) hV r) ⟨callB_of 2 hts (gI gd_up gd_c q264) rfl rfl rfl (ht _ q1) (ht _ q261) hd_V_keep ⟨Nat.le_of_ble_eq_true rfl, Nat.le_of_ble_eq_true rfl⟩, ht _ q263, ht _ qs6⟩ (z_preV hK (va_recv hK.1 (z_1 (hvv.grew hN.2)) (ci := 0) (q0 := 0) rfl rfl)) rfl rfl hl.1 rfl (lv_room (Nat.le_of_ble_eq_true rfl)) d_V_part_109 ⟨(Nat.le_of_ble_eq_true rfl), (Nat.le_of_ble_eq_true rfl)⟩) hS (fun _ h9 => Or.inl h9) (fun v33 H locs hv32 hz34 hf35 hS => ?_)
        obtain ⟨rfl, hC⟩ := hv32
        refine W.eq (g2 := F0 m 112 ls [.int ((kp RV r none).1)]) rfl ?_
        exact z_iretQ hx hb hr hlocks d_V_part_112 hS (Nat.le_of_ble_eq_true rfl) (Nat.le_of_ble_eq_true rfl) (by rw [show o_part RV f wh9 = none from (by unfold o_part; rw [hr5, ec4])]; exact ⟨rfl, hC⟩)
      · rw [if_neg hi0] at hv30
        by_cases hi1 : wh9 = 1
        · rw [if_pos hi1] at hv30
          subst hv30
          refine lv_astoreN (lv' := [(5, .null), (8, .ref a3), (4, .ref a3), (0, .ref vv), (1, .int r), (2, .int f), (3, .int wh9)]) hx hb d_V_part_103 hl (by decide) rfl (fun ls hl => ?_)
          refine lv_aload_n hx hb d_V_part_105 rfl (lv_at hl 3 rfl) ?_
          refine lv_iload_n hx hb d_V_part_106 rfl (lv_at hl 4 rfl) ?_
          refine lv_aloadN hx hb d_V_part_107 (lv_at hl 0 rfl) ?_
          refine z_callQ (va_runV (C := "ValueTrees") (As := [.int r, .null]) (rest := []) ⟨hx, hb, hml, hown, hts⟩ (c_V_keep_n l D dT _ Bq vv rg li ed tb tc RV (hC.up hN) hV r) ⟨callB_of 2 hts (gI gd_up gd_c q264) rfl rfl rfl (ht _ q1) (ht _ q261) hd_V_keep ⟨Nat.le_of_ble_eq_true rfl, Nat.le_of_ble_eq_true rfl⟩, ht _ q263, ht _ qs6⟩ (z_preV hK (va_recv hK.1 (z_1 (hvv.grew hN.2)) (ci := 0) (q0 := 0) rfl rfl)) rfl rfl hl.1 rfl (lv_room (Nat.le_of_ble_eq_true rfl)) d_V_part_109 ⟨(Nat.le_of_ble_eq_true rfl), (Nat.le_of_ble_eq_true rfl)⟩) hS (fun _ h9 => Or.inl h9) (fun v37 H locs hv36 hz38 hf39 hS => ?_)
          obtain ⟨rfl, hC⟩ := hv36
          refine W.eq (g2 := F0 m 112 ls [.int ((kp RV r none).1)]) rfl ?_
          exact z_iretQ hx hb hr hlocks d_V_part_112 hS (Nat.le_of_ble_eq_true rfl) (Nat.le_of_ble_eq_true rfl) (by rw [show o_part RV f wh9 = none from (by unfold o_part; rw [hr5, ec4])]; exact ⟨rfl, hC⟩)
        · rw [if_neg hi1] at hv30
          subst hv30
          refine lv_astoreN (lv' := [(5, .null), (8, .ref a3), (4, .ref a3), (0, .ref vv), (1, .int r), (2, .int f), (3, .int wh9)]) hx hb d_V_part_103 hl (by decide) rfl (fun ls hl => ?_)
          refine lv_aload_n hx hb d_V_part_105 rfl (lv_at hl 3 rfl) ?_
          refine lv_iload_n hx hb d_V_part_106 rfl (lv_at hl 4 rfl) ?_
          refine lv_aloadN hx hb d_V_part_107 (lv_at hl 0 rfl) ?_
          refine z_callQ (va_runV (C := "ValueTrees") (As := [.int r, .null]) (rest := []) ⟨hx, hb, hml, hown, hts⟩ (c_V_keep_n l D dT _ Bq vv rg li ed tb tc RV (hC.up hN) hV r) ⟨callB_of 2 hts (gI gd_up gd_c q264) rfl rfl rfl (ht _ q1) (ht _ q261) hd_V_keep ⟨Nat.le_of_ble_eq_true rfl, Nat.le_of_ble_eq_true rfl⟩, ht _ q263, ht _ qs6⟩ (z_preV hK (va_recv hK.1 (z_1 (hvv.grew hN.2)) (ci := 0) (q0 := 0) rfl rfl)) rfl rfl hl.1 rfl (lv_room (Nat.le_of_ble_eq_true rfl)) d_V_part_109 ⟨(Nat.le_of_ble_eq_true rfl), (Nat.le_of_ble_eq_true rfl)⟩) hS (fun _ h9 => Or.inl h9) (fun v41 H locs hv40 hz42 hf43 hS => ?_)
          obtain ⟨rfl, hC⟩ := hv40
          refine W.eq (g2 := F0 m 112 ls [.int ((kp RV r none).1)]) rfl ?_
          exact z_iretQ hx hb hr hlocks d_V_part_112 hS (Nat.le_of_ble_eq_true rfl) (Nat.le_of_ble_eq_true rfl) (by rw [show o_part RV f wh9 = none from (by unfold o_part; rw [hr5, ec4])]; exact ⟨rfl, hC⟩)
    | var i4 =>
      obtain ⟨oa4, hna4⟩ := rv_var.mp hq4
      refine lv_astore (lv' := [(4, .ref a3), (0, .ref vv), (1, .int r), (2, .int f), (3, .int wh9)]) hx hb d_V_part_5 hl (by decide) rfl (fun ls hl => ?_)
      refine lv_null hx hb d_V_part_7 ?_
      refine lv_astoreN (lv' := [(5, .null), (4, .ref a3), (0, .ref vv), (1, .int r), (2, .int f), (3, .int wh9)]) hx hb d_V_part_8 hl (by decide) rfl (fun ls hl => ?_)
      refine lv_aload hx hb d_V_part_10 (lv_at hl 1 rfl) ?_
      refine va_instE hx hb hown (ht _ q303) (z_recv hK (oa4.grew hN.2) rfl) d_V_part_12 ?_
      refine lv_if_eq (tgt := 40) hx hb d_V_part_15 (by decide) (fun c44 => absurd c44 (by decide)) (fun _ => ?_)
      refine lv_aload hx hb d_V_part_18 (lv_at hl 1 rfl) ?_
      refine va_castE hx hb hown (ht _ q303) (z_recv hK (oa4.grew hN.2) rfl) d_V_part_20 ?_
      refine lv_astore (lv' := [(6, .ref a3), (5, .null), (4, .ref a3), (0, .ref vv), (1, .int r), (2, .int f), (3, .int wh9)]) hx hb d_V_part_23 hl (by decide) rfl (fun ls hl => ?_)
      refine lv_iload_n hx hb d_V_part_25 rfl (lv_at hl 6 rfl) ?_
      refine lv_aload hx hb d_V_part_26 (lv_at hl 0 rfl) ?_
      refine va_get (D := D) (ci := 4) (v := .null) (C := "ValueTrees$Choice") (T := T_Choice) (N := 4) hx hb ht in_Choice hown hK.1 (z_1 (oa4.grew hN.2)) 0 rfl rfl 3 (by decide) (ht _ q312) (fun _ h9 => h9) rfl d_V_part_28 ?_
      refine lv_null hx hb d_V_part_31 ?_
      refine z_callR (va_runS (As := [.int wh9, .null, .null]) (rest := []) ⟨hx, hb, hml, hown, hts⟩ (c_V_oneOf_nn l D dT _ wh9 ) ⟨callB_of 3 hts (gI gd_up gd_c q480) rfl rfl rfl (ht _ q1) (ht _ q478) hd_V_oneOf ⟨Nat.le_of_ble_eq_true rfl, Nat.le_of_ble_eq_true rfl⟩, ht _ q479⟩ (z_preS hK) rfl rfl hl.1 rfl (lv_room (Nat.le_of_ble_eq_true rfl)) d_V_part_32 ⟨Nat.zero_le _, Nat.zero_le _⟩) (fun v46 hv45 => ?_)
      have hv45 : v46 = (if wh9 = 0 then .null else if wh9 = 1 then .null else .null) := hv45
      by_cases hi0 : wh9 = 0
      · rw [if_pos hi0] at hv45
        subst hv45
        refine lv_astoreN (lv' := [(5, .null), (6, .ref a3), (4, .ref a3), (0, .ref vv), (1, .int r), (2, .int f), (3, .int wh9)]) hx hb d_V_part_35 hl (by decide) rfl (fun ls hl => ?_)
        refine lv_goto (tgt := 105) hx hb d_V_part_37 (by decide) ?_
        refine lv_aload_n hx hb d_V_part_105 rfl (lv_at hl 3 rfl) ?_
        refine lv_iload_n hx hb d_V_part_106 rfl (lv_at hl 4 rfl) ?_
        refine lv_aloadN hx hb d_V_part_107 (lv_at hl 0 rfl) ?_
        refine z_callQ (va_runV (C := "ValueTrees") (As := [.int r, .null]) (rest := []) ⟨hx, hb, hml, hown, hts⟩ (c_V_keep_n l D dT _ Bq vv rg li ed tb tc RV (hC.up hN) hV r) ⟨callB_of 2 hts (gI gd_up gd_c q264) rfl rfl rfl (ht _ q1) (ht _ q261) hd_V_keep ⟨Nat.le_of_ble_eq_true rfl, Nat.le_of_ble_eq_true rfl⟩, ht _ q263, ht _ qs6⟩ (z_preV hK (va_recv hK.1 (z_1 (hvv.grew hN.2)) (ci := 0) (q0 := 0) rfl rfl)) rfl rfl hl.1 rfl (lv_room (Nat.le_of_ble_eq_true rfl)) d_V_part_109 ⟨(Nat.le_of_ble_eq_true rfl), (Nat.le_of_ble_eq_true rfl)⟩) hS (fun _ h9 => Or.inl h9) (fun v48 H locs hv47 hz49 hf50 hS => ?_)
        obtain ⟨rfl, hC⟩ := hv47
        refine W.eq (g2 := F0 m 112 ls [.int ((kp RV r none).1)]) rfl ?_
        exact z_iretQ hx hb hr hlocks d_V_part_112 hS (Nat.le_of_ble_eq_true rfl) (Nat.le_of_ble_eq_true rfl) (by rw [show o_part RV f wh9 = none from (by unfold o_part; rw [hr5, ec4])]; exact ⟨rfl, hC⟩)
      · rw [if_neg hi0] at hv45
        by_cases hi1 : wh9 = 1
        · rw [if_pos hi1] at hv45
          subst hv45
          refine lv_astoreN (lv' := [(5, .null), (6, .ref a3), (4, .ref a3), (0, .ref vv), (1, .int r), (2, .int f), (3, .int wh9)]) hx hb d_V_part_35 hl (by decide) rfl (fun ls hl => ?_)
          refine lv_goto (tgt := 105) hx hb d_V_part_37 (by decide) ?_
          refine lv_aload_n hx hb d_V_part_105 rfl (lv_at hl 3 rfl) ?_
          refine lv_iload_n hx hb d_V_part_106 rfl (lv_at hl 4 rfl) ?_
          refine lv_aloadN hx hb d_V_part_107 (lv_at hl 0 rfl) ?_
          refine z_callQ (va_runV (C := "ValueTrees") (As := [.int r, .null]) (rest := []) ⟨hx, hb, hml, hown, hts⟩ (c_V_keep_n l D dT _ Bq vv rg li ed tb tc RV (hC.up hN) hV r) ⟨callB_of 2 hts (gI gd_up gd_c q264) rfl rfl rfl (ht _ q1) (ht _ q261) hd_V_keep ⟨Nat.le_of_ble_eq_true rfl, Nat.le_of_ble_eq_true rfl⟩, ht _ q263, ht _ qs6⟩ (z_preV hK (va_recv hK.1 (z_1 (hvv.grew hN.2)) (ci := 0) (q0 := 0) rfl rfl)) rfl rfl hl.1 rfl (lv_room (Nat.le_of_ble_eq_true rfl)) d_V_part_109 ⟨(Nat.le_of_ble_eq_true rfl), (Nat.le_of_ble_eq_true rfl)⟩) hS (fun _ h9 => Or.inl h9) (fun v52 H locs hv51 hz53 hf54 hS => ?_)
          obtain ⟨rfl, hC⟩ := hv51
          refine W.eq (g2 := F0 m 112 ls [.int ((kp RV r none).1)]) rfl ?_
          exact z_iretQ hx hb hr hlocks d_V_part_112 hS (Nat.le_of_ble_eq_true rfl) (Nat.le_of_ble_eq_true rfl) (by rw [show o_part RV f wh9 = none from (by unfold o_part; rw [hr5, ec4])]; exact ⟨rfl, hC⟩)
        · rw [if_neg hi1] at hv45
          subst hv45
          refine lv_astoreN (lv' := [(5, .null), (6, .ref a3), (4, .ref a3), (0, .ref vv), (1, .int r), (2, .int f), (3, .int wh9)]) hx hb d_V_part_35 hl (by decide) rfl (fun ls hl => ?_)
          refine lv_goto (tgt := 105) hx hb d_V_part_37 (by decide) ?_
          refine lv_aload_n hx hb d_V_part_105 rfl (lv_at hl 3 rfl) ?_
          refine lv_iload_n hx hb d_V_part_106 rfl (lv_at hl 4 rfl) ?_
          refine lv_aloadN hx hb d_V_part_107 (lv_at hl 0 rfl) ?_
          refine z_callQ (va_runV (C := "ValueTrees") (As := [.int r, .null]) (rest := []) ⟨hx, hb, hml, hown, hts⟩ (c_V_keep_n l D dT _ Bq vv rg li ed tb tc RV (hC.up hN) hV r) ⟨callB_of 2 hts (gI gd_up gd_c q264) rfl rfl rfl (ht _ q1) (ht _ q261) hd_V_keep ⟨Nat.le_of_ble_eq_true rfl, Nat.le_of_ble_eq_true rfl⟩, ht _ q263, ht _ qs6⟩ (z_preV hK (va_recv hK.1 (z_1 (hvv.grew hN.2)) (ci := 0) (q0 := 0) rfl rfl)) rfl rfl hl.1 rfl (lv_room (Nat.le_of_ble_eq_true rfl)) d_V_part_109 ⟨(Nat.le_of_ble_eq_true rfl), (Nat.le_of_ble_eq_true rfl)⟩) hS (fun _ h9 => Or.inl h9) (fun v56 H locs hv55 hz57 hf58 hS => ?_)
          obtain ⟨rfl, hC⟩ := hv55
          refine W.eq (g2 := F0 m 112 ls [.int ((kp RV r none).1)]) rfl ?_
          exact z_iretQ hx hb hr hlocks d_V_part_112 hS (Nat.le_of_ble_eq_true rfl) (Nat.le_of_ble_eq_true rfl) (by rw [show o_part RV f wh9 = none from (by unfold o_part; rw [hr5, ec4])]; exact ⟨rfl, hC⟩)
    | neg ch4 =>
      obtain ⟨e4, f4, oa4, hna4, oe4, hne4, hch4⟩ := rv_neg.mp hq4
      refine lv_astore (lv' := [(4, .ref a3), (0, .ref vv), (1, .int r), (2, .int f), (3, .int wh9)]) hx hb d_V_part_5 hl (by decide) rfl (fun ls hl => ?_)
      refine lv_null hx hb d_V_part_7 ?_
      refine lv_astoreN (lv' := [(5, .null), (4, .ref a3), (0, .ref vv), (1, .int r), (2, .int f), (3, .int wh9)]) hx hb d_V_part_8 hl (by decide) rfl (fun ls hl => ?_)
      refine lv_aload hx hb d_V_part_10 (lv_at hl 1 rfl) ?_
      refine va_instNo (C := "ValueTrees$Tree") hx hb hown (ht _ q303) (hK.2.1 _ nc_Tree_Choice) (z_recv hK (oa4.grew hN.2) rfl) d_V_part_12 ?_
      refine lv_if_eq (tgt := 40) hx hb d_V_part_15 (by decide) (fun _ => ?_) (fun c59 => absurd c59 (by decide))
      refine lv_aload hx hb d_V_part_40 (lv_at hl 1 rfl) ?_
      refine va_instNo (C := "ValueTrees$Tree") hx hb hown (ht _ q387) (hK.2.1 _ nc_Tree_Couple) (z_recv hK (oa4.grew hN.2) rfl) d_V_part_42 ?_
      refine lv_if_eq (tgt := 74) hx hb d_V_part_45 (by decide) (fun _ => ?_) (fun c60 => absurd c60 (by decide))
      refine lv_aload hx hb d_V_part_74 (lv_at hl 1 rfl) ?_
      refine va_instNo (C := "ValueTrees$Tree") hx hb hown (ht _ q328) (hK.2.1 _ nc_Tree_Chain) (z_recv hK (oa4.grew hN.2) rfl) d_V_part_76 ?_
      refine lv_if_eq (tgt := 105) hx hb d_V_part_79 (by decide) (fun _ => ?_) (fun c61 => absurd c61 (by decide))
      refine lv_aload_n hx hb d_V_part_105 rfl (lv_at hl 2 rfl) ?_
      refine lv_iload_n hx hb d_V_part_106 rfl (lv_at hl 3 rfl) ?_
      refine lv_aloadN hx hb d_V_part_107 (lv_at hl 0 rfl) ?_
      refine z_callQ (va_runV (C := "ValueTrees") (As := [.int r, .null]) (rest := []) ⟨hx, hb, hml, hown, hts⟩ (c_V_keep_n l D dT _ Bq vv rg li ed tb tc RV (hC.up hN) hV r) ⟨callB_of 2 hts (gI gd_up gd_c q264) rfl rfl rfl (ht _ q1) (ht _ q261) hd_V_keep ⟨Nat.le_of_ble_eq_true rfl, Nat.le_of_ble_eq_true rfl⟩, ht _ q263, ht _ qs6⟩ (z_preV hK (va_recv hK.1 (z_1 (hvv.grew hN.2)) (ci := 0) (q0 := 0) rfl rfl)) rfl rfl hl.1 rfl (lv_room (Nat.le_of_ble_eq_true rfl)) d_V_part_109 ⟨(Nat.le_of_ble_eq_true rfl), (Nat.le_of_ble_eq_true rfl)⟩) hS (fun _ h9 => Or.inl h9) (fun v63 H locs hv62 hz64 hf65 hS => ?_)
      obtain ⟨rfl, hC⟩ := hv62
      refine W.eq (g2 := F0 m 112 ls [.int ((kp RV r none).1)]) rfl ?_
      exact z_iretQ hx hb hr hlocks d_V_part_112 hS (Nat.le_of_ble_eq_true rfl) (Nat.le_of_ble_eq_true rfl) (by rw [show o_part RV f wh9 = none from (by unfold o_part; rw [hr5, ec4])]; exact ⟨rfl, hC⟩)
    | add x4 y4 =>
      obtain ⟨b4, d4, oa4, hna4, hb4, hd4⟩ := rv_add.mp hq4
      refine lv_astore (lv' := [(4, .ref a3), (0, .ref vv), (1, .int r), (2, .int f), (3, .int wh9)]) hx hb d_V_part_5 hl (by decide) rfl (fun ls hl => ?_)
      refine lv_null hx hb d_V_part_7 ?_
      refine lv_astoreN (lv' := [(5, .null), (4, .ref a3), (0, .ref vv), (1, .int r), (2, .int f), (3, .int wh9)]) hx hb d_V_part_8 hl (by decide) rfl (fun ls hl => ?_)
      refine lv_aload hx hb d_V_part_10 (lv_at hl 1 rfl) ?_
      refine va_instNo (C := "ValueTrees$Couple") hx hb hown (ht _ q303) (hK.2.1 _ nc_Couple_Choice) (z_recv hK (oa4.grew hN.2) rfl) d_V_part_12 ?_
      refine lv_if_eq (tgt := 40) hx hb d_V_part_15 (by decide) (fun _ => ?_) (fun c66 => absurd c66 (by decide))
      refine lv_aload hx hb d_V_part_40 (lv_at hl 1 rfl) ?_
      refine va_instE hx hb hown (ht _ q387) (z_recv hK (oa4.grew hN.2) rfl) d_V_part_42 ?_
      refine lv_if_eq (tgt := 74) hx hb d_V_part_45 (by decide) (fun c67 => absurd c67 (by decide)) (fun _ => ?_)
      refine lv_aload hx hb d_V_part_48 (lv_at hl 1 rfl) ?_
      refine va_castE hx hb hown (ht _ q387) (z_recv hK (oa4.grew hN.2) rfl) d_V_part_50 ?_
      refine lv_astore (lv' := [(7, .ref a3), (5, .null), (4, .ref a3), (0, .ref vv), (1, .int r), (2, .int f), (3, .int wh9)]) hx hb d_V_part_53 hl (by decide) rfl (fun ls hl => ?_)
      refine lv_iload_n hx hb d_V_part_55 rfl (lv_at hl 6 rfl) ?_
      refine lv_aload hx hb d_V_part_56 (lv_at hl 0 rfl) ?_
      refine va_get (D := D) (ci := 5) (v := .ref b4) (C := "ValueTrees$Couple") (T := T_Couple) (N := 4) hx hb ht in_Couple hown hK.1 (z_1 (oa4.grew hN.2)) 0 rfl rfl 2 (by decide) (ht _ q395) (fun _ h9 => h9) rfl d_V_part_58 ?_
      refine lv_aload hx hb d_V_part_61 (lv_at hl 0 rfl) ?_
      refine va_get (D := D) (ci := 5) (v := .ref d4) (C := "ValueTrees$Couple") (T := T_Couple) (N := 4) hx hb ht in_Couple hown hK.1 (z_1 (oa4.grew hN.2)) 0 rfl rfl 3 (by decide) (ht _ q397) (fun _ h9 => h9) rfl d_V_part_63 ?_
      refine z_callR (va_runS (As := [.int wh9, .ref b4, .ref d4]) (rest := []) ⟨hx, hb, hml, hown, hts⟩ (c_V_oneOf_rr l D dT _ wh9 b4 d4) ⟨callB_of 3 hts (gI gd_up gd_c q480) rfl rfl rfl (ht _ q1) (ht _ q478) hd_V_oneOf ⟨Nat.le_of_ble_eq_true rfl, Nat.le_of_ble_eq_true rfl⟩, ht _ q479⟩ (z_preS hK) rfl rfl hl.1 rfl (lv_room (Nat.le_of_ble_eq_true rfl)) d_V_part_66 ⟨Nat.zero_le _, Nat.zero_le _⟩) (fun v69 hv68 => ?_)
      have hv68 : v69 = (if wh9 = 0 then .ref b4 else if wh9 = 1 then .ref d4 else .null) := hv68
      by_cases hi0 : wh9 = 0
      · rw [if_pos hi0] at hv68
        subst hv68
        refine lv_astore (lv' := [(5, .ref b4), (7, .ref a3), (4, .ref a3), (0, .ref vv), (1, .int r), (2, .int f), (3, .int wh9)]) hx hb d_V_part_69 hl (by decide) rfl (fun ls hl => ?_)
        refine lv_goto (tgt := 105) hx hb d_V_part_71 (by decide) ?_
        refine lv_aload_n hx hb d_V_part_105 rfl (lv_at hl 3 rfl) ?_
        refine lv_iload_n hx hb d_V_part_106 rfl (lv_at hl 4 rfl) ?_
        refine lv_aload hx hb d_V_part_107 (lv_at hl 0 rfl) ?_
        have hlz : (cs (.pow (.add x4 y4) (vty v4))).length ≤ 160 := by rw [← ec4]; exact hl4
        rw [l_add] at hlz
        refine z_callQ (va_runV (C := "ValueTrees") (As := [.int r, .ref b4]) (rest := []) ⟨hx, hb, hml, hown, hts⟩ (c_V_keep_r l D dT _ Bq vv rg li ed tb tc RV (hC.up hN) hV r x4 (lt_ tb (vty v4)) b4 hc4.2.1 (rq_up hN.2 hb4) (by omega)) ⟨callB_of 2 hts (gI gd_up gd_c q264) rfl rfl rfl (ht _ q1) (ht _ q261) hd_V_keep ⟨Nat.le_of_ble_eq_true rfl, Nat.le_of_ble_eq_true rfl⟩, ht _ q263, ht _ qs6⟩ (z_preV hK (va_recv hK.1 (z_1 (hvv.grew hN.2)) (ci := 0) (q0 := 0) rfl rfl)) rfl rfl hl.1 rfl (lv_room (Nat.le_of_ble_eq_true rfl)) d_V_part_109 ⟨(Nat.le_of_ble_eq_true rfl), (Nat.le_of_ble_eq_true rfl)⟩) hS (fun _ h9 => Or.inl h9) (fun v71 H locs hv70 hz72 hf73 hS => ?_)
        obtain ⟨rfl, hC⟩ := hv70
        refine W.eq (g2 := F0 m 112 ls [.int ((kp RV r (some x4)).1)]) rfl ?_
        exact z_iretQ hx hb hr hlocks d_V_part_112 hS (Nat.le_of_ble_eq_true rfl) (Nat.le_of_ble_eq_true rfl) (by rw [show o_part RV f wh9 = (some x4) from (by unfold o_part; rw [hr5, ec4]; dsimp only; rw [if_pos hi0]; try rfl)]; exact ⟨rfl, hC⟩)
      · rw [if_neg hi0] at hv68
        by_cases hi1 : wh9 = 1
        · rw [if_pos hi1] at hv68
          subst hv68
          refine lv_astore (lv' := [(5, .ref d4), (7, .ref a3), (4, .ref a3), (0, .ref vv), (1, .int r), (2, .int f), (3, .int wh9)]) hx hb d_V_part_69 hl (by decide) rfl (fun ls hl => ?_)
          refine lv_goto (tgt := 105) hx hb d_V_part_71 (by decide) ?_
          refine lv_aload_n hx hb d_V_part_105 rfl (lv_at hl 3 rfl) ?_
          refine lv_iload_n hx hb d_V_part_106 rfl (lv_at hl 4 rfl) ?_
          refine lv_aload hx hb d_V_part_107 (lv_at hl 0 rfl) ?_
          have hlz : (cs (.pow (.add x4 y4) (vty v4))).length ≤ 160 := by rw [← ec4]; exact hl4
          rw [l_add] at hlz
          refine z_callQ (va_runV (C := "ValueTrees") (As := [.int r, .ref d4]) (rest := []) ⟨hx, hb, hml, hown, hts⟩ (c_V_keep_r l D dT _ Bq vv rg li ed tb tc RV (hC.up hN) hV r y4 (rt_ tb (vty v4)) d4 hc4.2.2 (rq_up hN.2 hd4) (by omega)) ⟨callB_of 2 hts (gI gd_up gd_c q264) rfl rfl rfl (ht _ q1) (ht _ q261) hd_V_keep ⟨Nat.le_of_ble_eq_true rfl, Nat.le_of_ble_eq_true rfl⟩, ht _ q263, ht _ qs6⟩ (z_preV hK (va_recv hK.1 (z_1 (hvv.grew hN.2)) (ci := 0) (q0 := 0) rfl rfl)) rfl rfl hl.1 rfl (lv_room (Nat.le_of_ble_eq_true rfl)) d_V_part_109 ⟨(Nat.le_of_ble_eq_true rfl), (Nat.le_of_ble_eq_true rfl)⟩) hS (fun _ h9 => Or.inl h9) (fun v75 H locs hv74 hz76 hf77 hS => ?_)
          obtain ⟨rfl, hC⟩ := hv74
          refine W.eq (g2 := F0 m 112 ls [.int ((kp RV r (some y4)).1)]) rfl ?_
          exact z_iretQ hx hb hr hlocks d_V_part_112 hS (Nat.le_of_ble_eq_true rfl) (Nat.le_of_ble_eq_true rfl) (by rw [show o_part RV f wh9 = (some y4) from (by unfold o_part; rw [hr5, ec4]; dsimp only; rw [if_neg hi0, if_pos hi1]; try rfl)]; exact ⟨rfl, hC⟩)
        · rw [if_neg hi1] at hv68
          subst hv68
          refine lv_astoreN (lv' := [(5, .null), (7, .ref a3), (4, .ref a3), (0, .ref vv), (1, .int r), (2, .int f), (3, .int wh9)]) hx hb d_V_part_69 hl (by decide) rfl (fun ls hl => ?_)
          refine lv_goto (tgt := 105) hx hb d_V_part_71 (by decide) ?_
          refine lv_aload_n hx hb d_V_part_105 rfl (lv_at hl 3 rfl) ?_
          refine lv_iload_n hx hb d_V_part_106 rfl (lv_at hl 4 rfl) ?_
          refine lv_aloadN hx hb d_V_part_107 (lv_at hl 0 rfl) ?_
          refine z_callQ (va_runV (C := "ValueTrees") (As := [.int r, .null]) (rest := []) ⟨hx, hb, hml, hown, hts⟩ (c_V_keep_n l D dT _ Bq vv rg li ed tb tc RV (hC.up hN) hV r) ⟨callB_of 2 hts (gI gd_up gd_c q264) rfl rfl rfl (ht _ q1) (ht _ q261) hd_V_keep ⟨Nat.le_of_ble_eq_true rfl, Nat.le_of_ble_eq_true rfl⟩, ht _ q263, ht _ qs6⟩ (z_preV hK (va_recv hK.1 (z_1 (hvv.grew hN.2)) (ci := 0) (q0 := 0) rfl rfl)) rfl rfl hl.1 rfl (lv_room (Nat.le_of_ble_eq_true rfl)) d_V_part_109 ⟨(Nat.le_of_ble_eq_true rfl), (Nat.le_of_ble_eq_true rfl)⟩) hS (fun _ h9 => Or.inl h9) (fun v79 H locs hv78 hz80 hf81 hS => ?_)
          obtain ⟨rfl, hC⟩ := hv78
          refine W.eq (g2 := F0 m 112 ls [.int ((kp RV r none).1)]) rfl ?_
          exact z_iretQ hx hb hr hlocks d_V_part_112 hS (Nat.le_of_ble_eq_true rfl) (Nat.le_of_ble_eq_true rfl) (by rw [show o_part RV f wh9 = none from (by unfold o_part; rw [hr5, ec4]; dsimp only; rw [if_neg hi0, if_neg hi1]; try rfl)]; exact ⟨rfl, hC⟩)
    | sub a4 x4 =>
      obtain ⟨b4, oa4, hna4, hb4⟩ := rv_sub.mp hq4
      refine lv_astore (lv' := [(4, .ref a3), (0, .ref vv), (1, .int r), (2, .int f), (3, .int wh9)]) hx hb d_V_part_5 hl (by decide) rfl (fun ls hl => ?_)
      refine lv_null hx hb d_V_part_7 ?_
      refine lv_astoreN (lv' := [(5, .null), (4, .ref a3), (0, .ref vv), (1, .int r), (2, .int f), (3, .int wh9)]) hx hb d_V_part_8 hl (by decide) rfl (fun ls hl => ?_)
      refine lv_aload hx hb d_V_part_10 (lv_at hl 1 rfl) ?_
      refine va_instE hx hb hown (ht _ q303) (z_recv hK (oa4.grew hN.2) rfl) d_V_part_12 ?_
      refine lv_if_eq (tgt := 40) hx hb d_V_part_15 (by decide) (fun c82 => absurd c82 (by decide)) (fun _ => ?_)
      refine lv_aload hx hb d_V_part_18 (lv_at hl 1 rfl) ?_
      refine va_castE hx hb hown (ht _ q303) (z_recv hK (oa4.grew hN.2) rfl) d_V_part_20 ?_
      refine lv_astore (lv' := [(6, .ref a3), (5, .null), (4, .ref a3), (0, .ref vv), (1, .int r), (2, .int f), (3, .int wh9)]) hx hb d_V_part_23 hl (by decide) rfl (fun ls hl => ?_)
      refine lv_iload_n hx hb d_V_part_25 rfl (lv_at hl 6 rfl) ?_
      refine lv_aload hx hb d_V_part_26 (lv_at hl 0 rfl) ?_
      refine va_get (D := D) (ci := 4) (v := .ref b4) (C := "ValueTrees$Choice") (T := T_Choice) (N := 4) hx hb ht in_Choice hown hK.1 (z_1 (oa4.grew hN.2)) 0 rfl rfl 3 (by decide) (ht _ q312) (fun _ h9 => h9) rfl d_V_part_28 ?_
      refine lv_null hx hb d_V_part_31 ?_
      refine z_callR (va_runS (As := [.int wh9, .ref b4, .null]) (rest := []) ⟨hx, hb, hml, hown, hts⟩ (c_V_oneOf_rn l D dT _ wh9 b4) ⟨callB_of 3 hts (gI gd_up gd_c q480) rfl rfl rfl (ht _ q1) (ht _ q478) hd_V_oneOf ⟨Nat.le_of_ble_eq_true rfl, Nat.le_of_ble_eq_true rfl⟩, ht _ q479⟩ (z_preS hK) rfl rfl hl.1 rfl (lv_room (Nat.le_of_ble_eq_true rfl)) d_V_part_32 ⟨Nat.zero_le _, Nat.zero_le _⟩) (fun v84 hv83 => ?_)
      have hv83 : v84 = (if wh9 = 0 then .ref b4 else if wh9 = 1 then .null else .null) := hv83
      by_cases hi0 : wh9 = 0
      · rw [if_pos hi0] at hv83
        subst hv83
        refine lv_astore (lv' := [(5, .ref b4), (6, .ref a3), (4, .ref a3), (0, .ref vv), (1, .int r), (2, .int f), (3, .int wh9)]) hx hb d_V_part_35 hl (by decide) rfl (fun ls hl => ?_)
        refine lv_goto (tgt := 105) hx hb d_V_part_37 (by decide) ?_
        refine lv_aload_n hx hb d_V_part_105 rfl (lv_at hl 3 rfl) ?_
        refine lv_iload_n hx hb d_V_part_106 rfl (lv_at hl 4 rfl) ?_
        refine lv_aload hx hb d_V_part_107 (lv_at hl 0 rfl) ?_
        have hlz : (cs (.pow (.sub a4 x4) (vty v4))).length ≤ 160 := by rw [← ec4]; exact hl4
        rw [l_sub] at hlz
        obtain ⟨t9, hw9⟩ : ∃ t9, wty tb x4 0 t9 := by
          rcases hc4.2 with ⟨-, -, h9⟩ | ⟨-, -, h9⟩ | ⟨-, -, h9⟩ <;> exact ⟨_, h9⟩
        refine z_callQ (va_runV (C := "ValueTrees") (As := [.int r, .ref b4]) (rest := []) ⟨hx, hb, hml, hown, hts⟩ (c_V_keep_r l D dT _ Bq vv rg li ed tb tc RV (hC.up hN) hV r x4 t9 b4 hw9 (rq_up hN.2 hb4) (by omega)) ⟨callB_of 2 hts (gI gd_up gd_c q264) rfl rfl rfl (ht _ q1) (ht _ q261) hd_V_keep ⟨Nat.le_of_ble_eq_true rfl, Nat.le_of_ble_eq_true rfl⟩, ht _ q263, ht _ qs6⟩ (z_preV hK (va_recv hK.1 (z_1 (hvv.grew hN.2)) (ci := 0) (q0 := 0) rfl rfl)) rfl rfl hl.1 rfl (lv_room (Nat.le_of_ble_eq_true rfl)) d_V_part_109 ⟨(Nat.le_of_ble_eq_true rfl), (Nat.le_of_ble_eq_true rfl)⟩) hS (fun _ h9 => Or.inl h9) (fun v86 H locs hv85 hz87 hf88 hS => ?_)
        obtain ⟨rfl, hC⟩ := hv85
        refine W.eq (g2 := F0 m 112 ls [.int ((kp RV r (some x4)).1)]) rfl ?_
        exact z_iretQ hx hb hr hlocks d_V_part_112 hS (Nat.le_of_ble_eq_true rfl) (Nat.le_of_ble_eq_true rfl) (by rw [show o_part RV f wh9 = (some x4) from (by unfold o_part; rw [hr5, ec4]; dsimp only; rw [if_pos hi0]; try rfl)]; exact ⟨rfl, hC⟩)
      · rw [if_neg hi0] at hv83
        by_cases hi1 : wh9 = 1
        · rw [if_pos hi1] at hv83
          subst hv83
          refine lv_astoreN (lv' := [(5, .null), (6, .ref a3), (4, .ref a3), (0, .ref vv), (1, .int r), (2, .int f), (3, .int wh9)]) hx hb d_V_part_35 hl (by decide) rfl (fun ls hl => ?_)
          refine lv_goto (tgt := 105) hx hb d_V_part_37 (by decide) ?_
          refine lv_aload_n hx hb d_V_part_105 rfl (lv_at hl 3 rfl) ?_
          refine lv_iload_n hx hb d_V_part_106 rfl (lv_at hl 4 rfl) ?_
          refine lv_aloadN hx hb d_V_part_107 (lv_at hl 0 rfl) ?_
          refine z_callQ (va_runV (C := "ValueTrees") (As := [.int r, .null]) (rest := []) ⟨hx, hb, hml, hown, hts⟩ (c_V_keep_n l D dT _ Bq vv rg li ed tb tc RV (hC.up hN) hV r) ⟨callB_of 2 hts (gI gd_up gd_c q264) rfl rfl rfl (ht _ q1) (ht _ q261) hd_V_keep ⟨Nat.le_of_ble_eq_true rfl, Nat.le_of_ble_eq_true rfl⟩, ht _ q263, ht _ qs6⟩ (z_preV hK (va_recv hK.1 (z_1 (hvv.grew hN.2)) (ci := 0) (q0 := 0) rfl rfl)) rfl rfl hl.1 rfl (lv_room (Nat.le_of_ble_eq_true rfl)) d_V_part_109 ⟨(Nat.le_of_ble_eq_true rfl), (Nat.le_of_ble_eq_true rfl)⟩) hS (fun _ h9 => Or.inl h9) (fun v90 H locs hv89 hz91 hf92 hS => ?_)
          obtain ⟨rfl, hC⟩ := hv89
          refine W.eq (g2 := F0 m 112 ls [.int ((kp RV r none).1)]) rfl ?_
          exact z_iretQ hx hb hr hlocks d_V_part_112 hS (Nat.le_of_ble_eq_true rfl) (Nat.le_of_ble_eq_true rfl) (by rw [show o_part RV f wh9 = none from (by unfold o_part; rw [hr5, ec4]; dsimp only; rw [if_neg hi0]; try rfl)]; exact ⟨rfl, hC⟩)
        · rw [if_neg hi1] at hv83
          subst hv83
          refine lv_astoreN (lv' := [(5, .null), (6, .ref a3), (4, .ref a3), (0, .ref vv), (1, .int r), (2, .int f), (3, .int wh9)]) hx hb d_V_part_35 hl (by decide) rfl (fun ls hl => ?_)
          refine lv_goto (tgt := 105) hx hb d_V_part_37 (by decide) ?_
          refine lv_aload_n hx hb d_V_part_105 rfl (lv_at hl 3 rfl) ?_
          refine lv_iload_n hx hb d_V_part_106 rfl (lv_at hl 4 rfl) ?_
          refine lv_aloadN hx hb d_V_part_107 (lv_at hl 0 rfl) ?_
          refine z_callQ (va_runV (C := "ValueTrees") (As := [.int r, .null]) (rest := []) ⟨hx, hb, hml, hown, hts⟩ (c_V_keep_n l D dT _ Bq vv rg li ed tb tc RV (hC.up hN) hV r) ⟨callB_of 2 hts (gI gd_up gd_c q264) rfl rfl rfl (ht _ q1) (ht _ q261) hd_V_keep ⟨Nat.le_of_ble_eq_true rfl, Nat.le_of_ble_eq_true rfl⟩, ht _ q263, ht _ qs6⟩ (z_preV hK (va_recv hK.1 (z_1 (hvv.grew hN.2)) (ci := 0) (q0 := 0) rfl rfl)) rfl rfl hl.1 rfl (lv_room (Nat.le_of_ble_eq_true rfl)) d_V_part_109 ⟨(Nat.le_of_ble_eq_true rfl), (Nat.le_of_ble_eq_true rfl)⟩) hS (fun _ h9 => Or.inl h9) (fun v94 H locs hv93 hz95 hf96 hS => ?_)
          obtain ⟨rfl, hC⟩ := hv93
          refine W.eq (g2 := F0 m 112 ls [.int ((kp RV r none).1)]) rfl ?_
          exact z_iretQ hx hb hr hlocks d_V_part_112 hS (Nat.le_of_ble_eq_true rfl) (Nat.le_of_ble_eq_true rfl) (by rw [show o_part RV f wh9 = none from (by unfold o_part; rw [hr5, ec4]; dsimp only; rw [if_neg hi0]; try rfl)]; exact ⟨rfl, hC⟩)
    | mul x4 y4 =>
      obtain ⟨b4, d4, oa4, hna4, hb4, hd4⟩ := rv_mul.mp hq4
      refine lv_astore (lv' := [(4, .ref a3), (0, .ref vv), (1, .int r), (2, .int f), (3, .int wh9)]) hx hb d_V_part_5 hl (by decide) rfl (fun ls hl => ?_)
      refine lv_null hx hb d_V_part_7 ?_
      refine lv_astoreN (lv' := [(5, .null), (4, .ref a3), (0, .ref vv), (1, .int r), (2, .int f), (3, .int wh9)]) hx hb d_V_part_8 hl (by decide) rfl (fun ls hl => ?_)
      refine lv_aload hx hb d_V_part_10 (lv_at hl 1 rfl) ?_
      refine va_instNo (C := "ValueTrees$Chain") hx hb hown (ht _ q303) (hK.2.1 _ nc_Chain_Choice) (z_recv hK (oa4.grew hN.2) rfl) d_V_part_12 ?_
      refine lv_if_eq (tgt := 40) hx hb d_V_part_15 (by decide) (fun _ => ?_) (fun c97 => absurd c97 (by decide))
      refine lv_aload hx hb d_V_part_40 (lv_at hl 1 rfl) ?_
      refine va_instNo (C := "ValueTrees$Chain") hx hb hown (ht _ q387) (hK.2.1 _ nc_Chain_Couple) (z_recv hK (oa4.grew hN.2) rfl) d_V_part_42 ?_
      refine lv_if_eq (tgt := 74) hx hb d_V_part_45 (by decide) (fun _ => ?_) (fun c98 => absurd c98 (by decide))
      refine lv_aload hx hb d_V_part_74 (lv_at hl 1 rfl) ?_
      refine va_instE hx hb hown (ht _ q328) (z_recv hK (oa4.grew hN.2) rfl) d_V_part_76 ?_
      refine lv_if_eq (tgt := 105) hx hb d_V_part_79 (by decide) (fun c99 => absurd c99 (by decide)) (fun _ => ?_)
      refine lv_aload hx hb d_V_part_82 (lv_at hl 1 rfl) ?_
      refine va_castE hx hb hown (ht _ q328) (z_recv hK (oa4.grew hN.2) rfl) d_V_part_84 ?_
      refine lv_astore (lv' := [(8, .ref a3), (5, .null), (4, .ref a3), (0, .ref vv), (1, .int r), (2, .int f), (3, .int wh9)]) hx hb d_V_part_87 hl (by decide) rfl (fun ls hl => ?_)
      refine lv_iload_n hx hb d_V_part_89 rfl (lv_at hl 6 rfl) ?_
      refine lv_aload hx hb d_V_part_90 (lv_at hl 0 rfl) ?_
      refine va_get (D := D) (ci := 6) (v := .ref b4) (C := "ValueTrees$Chain") (T := T_Chain) (N := 5) hx hb ht in_Chain hown hK.1 (z_1 (oa4.grew hN.2)) 0 rfl rfl 2 (by decide) (ht _ q335) (fun _ h9 => h9) rfl d_V_part_92 ?_
      refine lv_aload hx hb d_V_part_95 (lv_at hl 0 rfl) ?_
      refine va_get (D := D) (ci := 6) (v := .ref d4) (C := "ValueTrees$Chain") (T := T_Chain) (N := 5) hx hb ht in_Chain hown hK.1 (z_1 (oa4.grew hN.2)) 0 rfl rfl 3 (by decide) (ht _ q337) (fun _ h9 => h9) rfl d_V_part_97 ?_
      refine z_callR (va_runS (As := [.int wh9, .ref b4, .ref d4]) (rest := []) ⟨hx, hb, hml, hown, hts⟩ (c_V_oneOf_rr l D dT _ wh9 b4 d4) ⟨callB_of 3 hts (gI gd_up gd_c q480) rfl rfl rfl (ht _ q1) (ht _ q478) hd_V_oneOf ⟨Nat.le_of_ble_eq_true rfl, Nat.le_of_ble_eq_true rfl⟩, ht _ q479⟩ (z_preS hK) rfl rfl hl.1 rfl (lv_room (Nat.le_of_ble_eq_true rfl)) d_V_part_100 ⟨Nat.zero_le _, Nat.zero_le _⟩) (fun v101 hv100 => ?_)
      have hv100 : v101 = (if wh9 = 0 then .ref b4 else if wh9 = 1 then .ref d4 else .null) := hv100
      by_cases hi0 : wh9 = 0
      · rw [if_pos hi0] at hv100
        subst hv100
        refine lv_astore (lv' := [(5, .ref b4), (8, .ref a3), (4, .ref a3), (0, .ref vv), (1, .int r), (2, .int f), (3, .int wh9)]) hx hb d_V_part_103 hl (by decide) rfl (fun ls hl => ?_)
        refine lv_aload_n hx hb d_V_part_105 rfl (lv_at hl 3 rfl) ?_
        refine lv_iload_n hx hb d_V_part_106 rfl (lv_at hl 4 rfl) ?_
        refine lv_aload hx hb d_V_part_107 (lv_at hl 0 rfl) ?_
        have hlz : (cs (.pow (.mul x4 y4) (vty v4))).length ≤ 160 := by rw [← ec4]; exact hl4
        obtain ⟨h11, hx9, hy9⟩ : tW (tb (vty v4)) = 11 ∧ wty tb x4 0 (lt_ tb (vty v4)) ∧ wty tb y4 1 (vty v4) := by
          rcases hc4 with ⟨-, a1, a2, a3⟩ | ⟨a1, -⟩ | ⟨a1, -⟩
          · exact ⟨a1, a2, a3⟩
          · exact absurd a1 (by decide)
          · exact absurd a1 (by decide)
        have hwl := wl_cons hx9 hy9 h11
        have hle : (cs (.pow (.mul x4 y4) (vty v4))).length = (cs (.pow y4 (vty v4))).length + (cs x4).length := by
          rw [l_mul, cs_mul, eb_pow hx9, List.length_append]
          cases y4 with
          | mul a b => rw [l_mul]; omega
          | intCast n => rw [l_nil]; show 5 + (_ + 0) = _; omega
          | _ => simp only [wty] at hy9; omega
        refine z_callQ (va_runV (C := "ValueTrees") (As := [.int r, .ref b4]) (rest := []) ⟨hx, hb, hml, hown, hts⟩ (c_V_keep_r l D dT _ Bq vv rg li ed tb tc RV (hC.up hN) hV r x4 (lt_ tb (vty v4)) b4 hx9 (rq_up hN.2 hb4) (by omega)) ⟨callB_of 2 hts (gI gd_up gd_c q264) rfl rfl rfl (ht _ q1) (ht _ q261) hd_V_keep ⟨Nat.le_of_ble_eq_true rfl, Nat.le_of_ble_eq_true rfl⟩, ht _ q263, ht _ qs6⟩ (z_preV hK (va_recv hK.1 (z_1 (hvv.grew hN.2)) (ci := 0) (q0 := 0) rfl rfl)) rfl rfl hl.1 rfl (lv_room (Nat.le_of_ble_eq_true rfl)) d_V_part_109 ⟨(Nat.le_of_ble_eq_true rfl), (Nat.le_of_ble_eq_true rfl)⟩) hS (fun _ h9 => Or.inl h9) (fun v103 H locs hv102 hz104 hf105 hS => ?_)
        obtain ⟨rfl, hC⟩ := hv102
        refine W.eq (g2 := F0 m 112 ls [.int ((kp RV r (some x4)).1)]) rfl ?_
        exact z_iretQ hx hb hr hlocks d_V_part_112 hS (Nat.le_of_ble_eq_true rfl) (Nat.le_of_ble_eq_true rfl) (by rw [show o_part RV f wh9 = (some x4) from (by unfold o_part; rw [hr5, ec4]; dsimp only; rw [if_pos hi0]; try rfl)]; exact ⟨rfl, hC⟩)
      · rw [if_neg hi0] at hv100
        by_cases hi1 : wh9 = 1
        · rw [if_pos hi1] at hv100
          subst hv100
          refine lv_astore (lv' := [(5, .ref d4), (8, .ref a3), (4, .ref a3), (0, .ref vv), (1, .int r), (2, .int f), (3, .int wh9)]) hx hb d_V_part_103 hl (by decide) rfl (fun ls hl => ?_)
          refine lv_aload_n hx hb d_V_part_105 rfl (lv_at hl 3 rfl) ?_
          refine lv_iload_n hx hb d_V_part_106 rfl (lv_at hl 4 rfl) ?_
          refine lv_aload hx hb d_V_part_107 (lv_at hl 0 rfl) ?_
          have hlz : (cs (.pow (.mul x4 y4) (vty v4))).length ≤ 160 := by rw [← ec4]; exact hl4
          obtain ⟨h11, hx9, hy9⟩ : tW (tb (vty v4)) = 11 ∧ wty tb x4 0 (lt_ tb (vty v4)) ∧ wty tb y4 1 (vty v4) := by
            rcases hc4 with ⟨-, a1, a2, a3⟩ | ⟨a1, -⟩ | ⟨a1, -⟩
            · exact ⟨a1, a2, a3⟩
            · exact absurd a1 (by decide)
            · exact absurd a1 (by decide)
          have hwl := wl_cons hx9 hy9 h11
          have hle : (cs (.pow (.mul x4 y4) (vty v4))).length = (cs (.pow y4 (vty v4))).length + (cs x4).length := by
            rw [l_mul, cs_mul, eb_pow hx9, List.length_append]
            cases y4 with
            | mul a b => rw [l_mul]; omega
            | intCast n => rw [l_nil]; show 5 + (_ + 0) = _; omega
            | _ => simp only [wty] at hy9; omega
          refine z_callQ (va_runV (C := "ValueTrees") (As := [.int r, .ref d4]) (rest := []) ⟨hx, hb, hml, hown, hts⟩ (c_V_keep_r l D dT _ Bq vv rg li ed tb tc RV (hC.up hN) hV r (.pow y4 (vty v4)) (vty v4) d4 (show wty tb (.pow _ _) 0 _ from ⟨rfl, rfl, hy9⟩) (rq_up hN.2 hd4) (by omega)) ⟨callB_of 2 hts (gI gd_up gd_c q264) rfl rfl rfl (ht _ q1) (ht _ q261) hd_V_keep ⟨Nat.le_of_ble_eq_true rfl, Nat.le_of_ble_eq_true rfl⟩, ht _ q263, ht _ qs6⟩ (z_preV hK (va_recv hK.1 (z_1 (hvv.grew hN.2)) (ci := 0) (q0 := 0) rfl rfl)) rfl rfl hl.1 rfl (lv_room (Nat.le_of_ble_eq_true rfl)) d_V_part_109 ⟨(Nat.le_of_ble_eq_true rfl), (Nat.le_of_ble_eq_true rfl)⟩) hS (fun _ h9 => Or.inl h9) (fun v107 H locs hv106 hz108 hf109 hS => ?_)
          obtain ⟨rfl, hC⟩ := hv106
          refine W.eq (g2 := F0 m 112 ls [.int ((kp RV r (some (.pow y4 (vty v4)))).1)]) rfl ?_
          exact z_iretQ hx hb hr hlocks d_V_part_112 hS (Nat.le_of_ble_eq_true rfl) (Nat.le_of_ble_eq_true rfl) (by rw [show o_part RV f wh9 = (some (.pow y4 (vty v4))) from (by unfold o_part; rw [hr5, ec4]; dsimp only; rw [if_neg hi0, if_pos hi1]; try rfl)]; exact ⟨rfl, hC⟩)
        · rw [if_neg hi1] at hv100
          subst hv100
          refine lv_astoreN (lv' := [(5, .null), (8, .ref a3), (4, .ref a3), (0, .ref vv), (1, .int r), (2, .int f), (3, .int wh9)]) hx hb d_V_part_103 hl (by decide) rfl (fun ls hl => ?_)
          refine lv_aload_n hx hb d_V_part_105 rfl (lv_at hl 3 rfl) ?_
          refine lv_iload_n hx hb d_V_part_106 rfl (lv_at hl 4 rfl) ?_
          refine lv_aloadN hx hb d_V_part_107 (lv_at hl 0 rfl) ?_
          refine z_callQ (va_runV (C := "ValueTrees") (As := [.int r, .null]) (rest := []) ⟨hx, hb, hml, hown, hts⟩ (c_V_keep_n l D dT _ Bq vv rg li ed tb tc RV (hC.up hN) hV r) ⟨callB_of 2 hts (gI gd_up gd_c q264) rfl rfl rfl (ht _ q1) (ht _ q261) hd_V_keep ⟨Nat.le_of_ble_eq_true rfl, Nat.le_of_ble_eq_true rfl⟩, ht _ q263, ht _ qs6⟩ (z_preV hK (va_recv hK.1 (z_1 (hvv.grew hN.2)) (ci := 0) (q0 := 0) rfl rfl)) rfl rfl hl.1 rfl (lv_room (Nat.le_of_ble_eq_true rfl)) d_V_part_109 ⟨(Nat.le_of_ble_eq_true rfl), (Nat.le_of_ble_eq_true rfl)⟩) hS (fun _ h9 => Or.inl h9) (fun v111 H locs hv110 hz112 hf113 hS => ?_)
          obtain ⟨rfl, hC⟩ := hv110
          refine W.eq (g2 := F0 m 112 ls [.int ((kp RV r none).1)]) rfl ?_
          exact z_iretQ hx hb hr hlocks d_V_part_112 hS (Nat.le_of_ble_eq_true rfl) (Nat.le_of_ble_eq_true rfl) (by rw [show o_part RV f wh9 = none from (by unfold o_part; rw [hr5, ec4]; dsimp only; rw [if_neg hi0, if_neg hi1]; try rfl)]; exact ⟨rfl, hC⟩)
    | pow c8 t8 => exact absurd hc4.1 (by decide)
