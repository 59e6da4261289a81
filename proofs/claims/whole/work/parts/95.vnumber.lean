abbrev b_V_numberOf : ByteArray := prog_1_method_38_code
abbrev y_V_numberOf : MethodName := ⟨"ValueTrees", "numberOf", "(LValueTrees$Type;)I"⟩
abbrev w_V_numberOf : List Cond := .code y_V_numberOf b_V_numberOf 4 (Option.some .int) :: gt
theorem hd_V_numberOf : (y_V_numberOf).cls ≠ "java/lang/invoke/MethodHandle" ∧ (y_V_numberOf).cls ≠ "java/lang/invoke/VarHandle" ∧ (parseMethodDescriptor (y_V_numberOf).desc).map (fun d => d.parameters.length) = some 1 := by decide +kernel
theorem d_V_numberOf_0 : decode b_V_numberOf 0 = .ok (.aload_n 0, 1) := by decide +kernel
theorem d_V_numberOf_1 : decode b_V_numberOf 1 = .ok (.getfield 10, 3) := by decide +kernel
theorem d_V_numberOf_4 : decode b_V_numberOf 4 = .ok (.invokevirtual 226, 3) := by decide +kernel
theorem d_V_numberOf_7 : decode b_V_numberOf 7 = .ok (.istore_n 2, 1) := by decide +kernel
theorem d_V_numberOf_8 : decode b_V_numberOf 8 = .ok (.iconst 0, 1) := by decide +kernel
theorem d_V_numberOf_9 : decode b_V_numberOf 9 = .ok (.istore_n 3, 1) := by decide +kernel
theorem d_V_numberOf_10 : decode b_V_numberOf 10 = .ok (.iload_n 3, 1) := by decide +kernel
theorem d_V_numberOf_11 : decode b_V_numberOf 11 = .ok (.iload_n 2, 1) := by decide +kernel
theorem d_V_numberOf_12 : decode b_V_numberOf 12 = .ok (.if_icmp .ge 29, 3) := by decide +kernel
theorem d_V_numberOf_15 : decode b_V_numberOf 15 = .ok (.aload_n 0, 1) := by decide +kernel
theorem d_V_numberOf_16 : decode b_V_numberOf 16 = .ok (.getfield 10, 3) := by decide +kernel
theorem d_V_numberOf_19 : decode b_V_numberOf 19 = .ok (.iload_n 3, 1) := by decide +kernel
theorem d_V_numberOf_20 : decode b_V_numberOf 20 = .ok (.invokevirtual 230, 3) := by decide +kernel
theorem d_V_numberOf_23 : decode b_V_numberOf 23 = .ok (.checkcast 16, 3) := by decide +kernel
theorem d_V_numberOf_26 : decode b_V_numberOf 26 = .ok (.aload_n 1, 1) := by decide +kernel
theorem d_V_numberOf_27 : decode b_V_numberOf 27 = .ok (.invokevirtual 237, 3) := by decide +kernel
theorem d_V_numberOf_30 : decode b_V_numberOf 30 = .ok (.ifCond .eq 5, 3) := by decide +kernel
theorem d_V_numberOf_33 : decode b_V_numberOf 33 = .ok (.iload_n 3, 1) := by decide +kernel
theorem d_V_numberOf_34 : decode b_V_numberOf 34 = .ok (.ireturn, 1) := by decide +kernel
theorem d_V_numberOf_35 : decode b_V_numberOf 35 = .ok (.iinc 3 1, 3) := by decide +kernel
theorem d_V_numberOf_38 : decode b_V_numberOf 38 = .ok (.goto (-28), 3) := by decide +kernel
theorem d_V_numberOf_41 : decode b_V_numberOf 41 = .ok (.iload_n 2, 1) := by decide +kernel
theorem d_V_numberOf_42 : decode b_V_numberOf 42 = .ok (.sipush 2000, 3) := by decide +kernel
theorem d_V_numberOf_45 : decode b_V_numberOf 45 = .ok (.if_icmp .lt 6, 3) := by decide +kernel
theorem d_V_numberOf_48 : decode b_V_numberOf 48 = .ok (.bipush (-2), 2) := by decide +kernel
theorem d_V_numberOf_50 : decode b_V_numberOf 50 = .ok (.ireturn, 1) := by decide +kernel
theorem d_V_numberOf_51 : decode b_V_numberOf 51 = .ok (.aload_n 0, 1) := by decide +kernel
theorem d_V_numberOf_52 : decode b_V_numberOf 52 = .ok (.getfield 10, 3) := by decide +kernel
theorem d_V_numberOf_55 : decode b_V_numberOf 55 = .ok (.aload_n 1, 1) := by decide +kernel
theorem d_V_numberOf_56 : decode b_V_numberOf 56 = .ok (.invokevirtual 25, 3) := by decide +kernel
theorem d_V_numberOf_59 : decode b_V_numberOf 59 = .ok (.pop, 1) := by decide +kernel
theorem d_V_numberOf_60 : decode b_V_numberOf 60 = .ok (.iload_n 2, 1) := by decide +kernel
theorem d_V_numberOf_61 : decode b_V_numberOf 61 = .ok (.ireturn, 1) := by decide +kernel
set_option maxHeartbeats 4000000 in
set_option maxRecDepth 100000 in
theorem c_V_numberOf (l : Launch) (D : va_G) (dT : Nat → ClassId) (H : Heap) (Bq : Nat → Prop) (vv rg li ed : Nat) (tb : Nat → TR) (tc : Nat) (RV : Nat → Option VT) (hC : cI D dT Bq vv rg li ed tb tc RV H) (hV : vOK tb tc RV) (q9 wn k9 : Nat) (ob : Option Nat) (hro : rowOK tb tc wn k9 ob) (oq9 : va_at D cls (q9, .inr (1, tyF (mkR tb wn k9 ob))) H) (hnq : ¬ Bq q9) : Met l y_V_numberOf w_V_numberOf ({ frames := 7, cells := 1, slots := 3000, locals := 152 }) (z_P D dT [.ref vv, .ref q9] H) (z_Q (fun q => q = li ∨ q = ed ∨ H.size ≤ q) (fun v H1 => v = some (.int (numA tb tc (mkR tb wn k9 ob))) ∧ cX D dT Bq vv rg li ed (numT tb tc (mkR tb wn k9 ob)).2.1 (numT tb tc (mkR tb wn k9 ob)).2.2 RV H.size H1)) 1 3000 (fun q => q = li ∨ q = ed ∨ H.size ≤ q) := by
  obtain ⟨⟨hBs, hBr, hBl, hBe, hBv, hrl, hre, hle⟩, hvv, hCR, hCT⟩ := id hC
  have hO := hV.1
  have htc := hO.1
  have htc10 := hO.2.1
  obtain ⟨mcn, cap, g, hli, hed, hcap, hcap0, hcapm, hty9⟩ := id hCT
  refine Met.ofW (cc := b_V_numberOf) (maxL := 4) (ret := (Option.some .int)) (by decide) rfl ?_
  intro p e s m args below meth c s₁ B hml hv
  obtain ⟨rfl, rfl, hK⟩ := hv
  have hx := B.exec
  have hb := B.bytes
  have hr := B.returns
  have hts := atoms_spec (ws := w_V_numberOf) B.pre
  have ht : ∀ w9 ∈ gt, w9.before [.ref vv, .ref q9].toArray s = true := fun w9 h => hts w9 (List.mem_cons_of_mem _ h)
  have hown : s.vm.findClass "ValueTrees" = some m.cls := findClass_of_methodNamed B.named
  have hlocks := B.notSynchronized
  have hS : va_S (fun q => q = li ∨ q = ed ∨ s.heap.size ≤ q) s.heap s.heap [] := va_S.rf
  have hl := lv_entry ([.ref vv, .ref q9]) (n := 4) (Nat.le_of_ble_eq_true rfl)
  rw [lg_entry_eq]
  generalize (lg_sl ([.ref vv, .ref q9]) ++ List.replicate (4 - (lg_sl ([.ref vv, .ref q9])).length) Slot.unset).toArray = ls at hl ⊢
  have hl : lv_has ls 4 [(0, .ref vv), (1, .ref q9)] := hl
  have hN : nU s.heap s.heap := nU.rf
  refine lv_aload_n hx hb d_V_numberOf_0 rfl (lv_at hl 0 rfl) ?_
  refine va_get (D := D) (ci := 0) (v := .ref li) (C := "ValueTrees") (T := T_V) (N := 2) hx hb ht in_V hown hK.1 (z_1 (hvv.grew hN.2)) 0 rfl rfl 0 (by decide) (ht _ q145) (fun _ h9 => h9) rfl d_V_numberOf_1 ?_
  refine z_callR (va_runV (C := "java/util/ArrayList") (As := []) (rest := []) ⟨hx, hb, hml, hown, hts⟩ (c_AL_size l D dT _ li ed mcn tc (hli.grew hN.2)) ⟨callB_of 0 hts (gI gd_up gd_c q167) rfl rfl rfl (ht _ q4) (ht _ q164) hd_AL_size ⟨Nat.le_of_ble_eq_true rfl, Nat.le_of_ble_eq_true rfl⟩, ht _ q165, ht _ q166⟩ (z_preV hK (va_recv hK.1 (z_1 (hli.grew hN.2)) (ci := 9) (q0 := 0) rfl rfl)) rfl rfl hl.1 rfl (lv_room (Nat.le_of_ble_eq_true rfl)) d_V_numberOf_4 ⟨Nat.zero_le _, Nat.zero_le _⟩) (fun v2 hv1 => ?_)
  subst hv1
  refine lv_istore_n (lv' := [(2, .int (nI tc)), (0, .ref vv), (1, .ref q9)]) hx hb d_V_numberOf_7 rfl hl (by decide) rfl (fun ls hl => ?_)
  refine lv_iconst (v := 0) hx hb d_V_numberOf_8 (by decide) ?_
  refine lv_istore_n (lv' := [(3, .int 0), (2, .int (nI tc)), (0, .ref vv), (1, .ref q9)]) hx hb d_V_numberOf_9 rfl hl (by decide) rfl (fun ls hl => ?_)
  have loop3 : ∀ (n109 : Nat) (t : Nat), (t ≤ tc) → (∀ k, k < t → ¬ isT (tb k) wn (some k9) ob) → tc - t < n109 → ∀ (ls : Array Slot), lv_has ls 4 [(3, .int (nI t)), (2, .int (nI tc)), (0, .ref vv), (1, .ref q9)] → W p l e (headSpec w_V_numberOf ({ frames := 7, cells := 1, slots := 3000, locals := 152 })).room s m [.ref vv, .ref q9].toArray below meth c s.heap [] 0 0 (MQ below (z_Q (fun q => q = li ∨ q = ed ∨ s.heap.size ≤ q) (fun v H1 => v = some (.int (numA tb tc (mkR tb wn k9 ob))) ∧ cX D dT Bq vv rg li ed (numT tb tc (mkR tb wn k9 ob)).2.1 (numT tb tc (mkR tb wn k9 ob)).2.2 RV s.heap.size H1)) [.ref vv, .ref q9].toArray s 1 3000 (fun q => q = li ∨ q = ed ∨ s.heap.size ≤ q)) (F0 m 10 ls []) := by
    intro n109
    induction n109 with
    | zero =>
      intro t ht9 hnt h109
      exact absurd h109 (Nat.not_lt_zero _)
    | succ n109 ih10 =>
      intro t ht9 hnt h109  ls hl
      refine lv_iload_n hx hb d_V_numberOf_10 rfl (lv_at hl 0 rfl) ?_
      refine lv_iload_n hx hb d_V_numberOf_11 rfl (lv_at hl 1 rfl) ?_
      refine lv_icmp_ge (tgt := 41) hx hb d_V_numberOf_12 (by decide) (fun c4 => ?_) (fun c4 => ?_)
      · have nc4 : tc ≤ t := (nI_leI (a := tc) (b := t) (by omega) (by omega)).mp c4
        have hall : ∀ k, k < tc → ¬ isT (tb k) wn (some k9) ob := fun k h9 => hnt k (by omega)
        refine lv_iload_n hx hb d_V_numberOf_41 rfl (lv_at hl 1 rfl) ?_
        refine lv_sipush (v := 2000) hx hb d_V_numberOf_42 (by decide) ?_
        refine lv_icmp_lt (tgt := 51) hx hb d_V_numberOf_45 (by decide) (fun c5 => ?_) (fun c5 => ?_)
        · have nc5 : tc < 2000 := (nI_ltI (a := tc) (b := 2000) (by omega) (by omega)).mp c5
          refine lv_aload_n hx hb d_V_numberOf_51 rfl (lv_at hl 2 rfl) ?_
          refine va_get (D := D) (ci := 0) (v := .ref li) (C := "ValueTrees") (T := T_V) (N := 2) hx hb ht in_V hown hK.1 (z_1 (hvv.grew hN.2)) 0 rfl rfl 0 (by decide) (ht _ q145) (fun _ h9 => h9) rfl d_V_numberOf_52 ?_
          refine lv_aload_n hx hb d_V_numberOf_55 rfl (lv_at hl 3 rfl) ?_
          have hT9 : allT D g tc s.heap := fun i hi y hy => by
            obtain ⟨a, a1, -, a3⟩ := hty9 i hi
            have e : a = y := Option.some.inj (a1.symm.trans hy)
            rw [e] at a3
            exact ⟨_, a3⟩
          have hTl : ∀ i, i < tc → ∀ y, g i = some y → y ≠ li := fun i hi y hy e8 => by
            obtain ⟨a, a1, a2, -⟩ := hty9 i hi
            have e : a = y := Option.some.inj (a1.symm.trans hy)
            exact a2 (by rw [e, e8]; exact hBl)
          refine z_callQ (va_runV (C := "java/util/ArrayList") (As := [.ref q9]) (rest := []) ⟨hx, hb, hml, hown, hts⟩ (c_add1 l D dT _ li ed tc mcn g hli cap hed hcap (by omega) hcapm hcap0 hT9 hle q9 (tyF (mkR tb wn k9 ob)) oq9 (fun e => hnq (by rw [e]; exact hBl)) (fun e => hnq (by rw [e]; exact hBe)) hTl) ⟨callB_of 1 hts (gI gd_up gd_c q88) rfl rfl rfl (ht _ q4) (ht _ q85) hd_AL_add1 ⟨Nat.le_of_ble_eq_true rfl, Nat.le_of_ble_eq_true rfl⟩, ht _ q86, ht _ q87⟩ (z_preV hK (va_recv hK.1 (z_1 (hli.grew hN.2)) (ci := 9) (q0 := 0) rfl rfl)) rfl rfl hl.1 rfl (lv_room (Nat.le_of_ble_eq_true rfl)) d_V_numberOf_56 ⟨(Nat.le_of_ble_eq_true rfl), (Nat.le_of_ble_eq_true rfl)⟩) hS (fun _ h9 => h9) (fun v7 H locs hv6 hz8 hf9 hS => ?_)
          obtain ⟨rfl, ed', mc', cap', g', he', hli', hed', hc1, hc2, hg1, hg2⟩ := hv6
          have hX := hC.added hty9 hz8 hf9 oq9 hnq he' hli' hed' hc1 hc2 hg1 hg2
          refine W.eq (g2 := F0 m 59 ls [.int 1]) rfl ?_
          refine lv_pop hx hb d_V_numberOf_59 rfl ?_
          refine lv_iload_n hx hb d_V_numberOf_60 rfl (lv_at hl 1 rfl) ?_
          exact z_iretQ hx hb hr hlocks d_V_numberOf_61 hS (Nat.le_of_ble_eq_true rfl) (Nat.le_of_ble_eq_true rfl) (by unfold numA; rw [show numT tb tc (mkR tb wn k9 ob) = _ from numT_new (tfd_none hall) (by omega)]; exact ⟨rfl, hX⟩)
        · have nc5 : ¬ tc < 2000 := fun h9 => c5 ((nI_ltI (a := tc) (b := 2000) (by omega) (by omega)).mpr h9)
          refine lv_bipush (v := (-2)) hx hb d_V_numberOf_48 (by decide) ?_
          exact z_iretQ hx hb hr hlocks d_V_numberOf_50 hS (Nat.le_of_ble_eq_true rfl) (Nat.le_of_ble_eq_true rfl) (by unfold numA; rw [show numT tb tc (mkR tb wn k9 ob) = _ from numT_full (tfd_none hall) (by omega)]; exact ⟨rfl, cX.rf hC⟩)
      · have nc4 : ¬ tc ≤ t := fun h9 => c4 ((nI_leI (a := tc) (b := t) (by omega) (by omega)).mpr h9)
        obtain ⟨a9, hga, hnb9, oa9⟩ := hty9 t (by omega)
        refine lv_aload_n hx hb d_V_numberOf_15 rfl (lv_at hl 2 rfl) ?_
        refine va_get (D := D) (ci := 0) (v := .ref li) (C := "ValueTrees") (T := T_V) (N := 2) hx hb ht in_V hown hK.1 (z_1 (hvv.grew hN.2)) 0 rfl rfl 0 (by decide) (ht _ q145) (fun _ h9 => h9) rfl d_V_numberOf_16 ?_
        refine lv_iload_n hx hb d_V_numberOf_19 rfl (lv_at hl 0 rfl) ?_
        refine z_callR (va_runV (C := "java/util/ArrayList") (As := [.int (nI t)]) (rest := []) ⟨hx, hb, hml, hown, hts⟩ (c_AL_get l D dT _ li ed mcn tc (hli.grew hN.2) cap g (hed.grew hN.2) hcapm t a9 (by omega) hcap hga) ⟨callB_of 1 hts (gI gd_up gd_c q171) rfl rfl rfl (ht _ q4) (ht _ q168) hd_AL_get ⟨Nat.le_of_ble_eq_true rfl, Nat.le_of_ble_eq_true rfl⟩, ht _ q169, ht _ q170⟩ (z_preV hK (va_recv hK.1 (z_1 (hli.grew hN.2)) (ci := 9) (q0 := 0) rfl rfl)) rfl rfl hl.1 rfl (lv_room (Nat.le_of_ble_eq_true rfl)) d_V_numberOf_20 ⟨Nat.zero_le _, Nat.zero_le _⟩) (fun v11 hv10 => ?_)
        subst hv10
        refine va_castE hx hb hown (ht _ q55) (z_recv hK (oa9.grew hN.2) rfl) d_V_numberOf_23 ?_
        refine lv_aload_n hx hb d_V_numberOf_26 rfl (lv_at hl 3 rfl) ?_
        refine z_callR (va_runV (C := "ValueTrees$Type") (As := [.ref q9]) (rest := []) ⟨hx, hb, hml, hown, hts⟩ (c_Type_isLike l D dT _ a9 q9 (tb t) (mkR tb wn k9 ob) (oa9.grew hN.2) (oq9.grew hN.2) (by have := (hO.2.2 t (by omega)).1; omega) (show wn < 2 ^ 31 by have := hro.2.1; omega)) ⟨callB_of 1 hts (gI gd_up gd_c q193) rfl rfl rfl (ht _ q5) (ht _ q190) hd_Type_isLike ⟨Nat.le_of_ble_eq_true rfl, Nat.le_of_ble_eq_true rfl⟩, ht _ q191, ht _ q192⟩ (z_preV hK (va_recv hK.1 (z_1 (oa9.grew hN.2)) (ci := 1) (q0 := 0) rfl rfl)) rfl rfl hl.1 rfl (lv_room (Nat.le_of_ble_eq_true rfl)) d_V_numberOf_27 ⟨Nat.zero_le _, Nat.zero_le _⟩) (fun v13 hv12 => ?_)
        have hv12 : v13 = .int (if tW (tb t) = tW (mkR tb wn k9 ob) ∧ oI (tL (tb t)) = oI (tL (mkR tb wn k9 ob)) ∧ oI (tR (tb t)) = oI (tR (mkR tb wn k9 ob)) then 1 else 0) := hv12
        rcases Classical.em (tW (tb t) = tW (mkR tb wn k9 ob) ∧ oI (tL (tb t)) = oI (tL (mkR tb wn k9 ob)) ∧ oI (tR (tb t)) = oI (tR (mkR tb wn k9 ob))) with hlk | hlk
        · rw [if_pos hlk] at hv12
          subst hv12
          refine lv_if_eq (tgt := 35) hx hb d_V_numberOf_30 (by decide) (fun c14 => absurd c14 (by decide)) (fun _ => ?_)
          refine lv_iload_n hx hb d_V_numberOf_33 rfl (lv_at hl 0 rfl) ?_
          exact z_iretQ hx hb hr hlocks d_V_numberOf_34 hS (Nat.le_of_ble_eq_true rfl) (Nat.le_of_ble_eq_true rfl) (by unfold numA; rw [show numT tb tc (mkR tb wn k9 ob) = _ from numT_some (tfd_some ((like_iff hO (by omega) hro).mp hlk) hnt (by omega))]; exact ⟨rfl, cX.rf hC⟩)
        · rw [if_neg hlk] at hv12
          subst hv12
          refine lv_if_eq (tgt := 35) hx hb d_V_numberOf_30 (by decide) (fun _ => ?_) (fun c15 => absurd c15 (by decide))
          refine lv_iinc (v := (nI (t + 1))) (lv' := [(3, .int (nI (t + 1))), (2, .int (nI tc)), (0, .ref vv), (1, .ref q9)]) hx hb d_V_numberOf_35 hl (k := 0) rfl (nI_1 t) (by decide) rfl (fun ls hl => ?_)
          refine lv_goto (tgt := 10) hx hb d_V_numberOf_38 (by decide) ?_
          exact ih10 (t + 1) (by omega) (fun k h9 => (Nat.lt_or_eq_of_le (Nat.le_of_lt_succ h9)).elim (fun h8 => hnt k h8) (fun e8 => by rw [e8]; exact fun h7 => hlk ((like_iff hO (by omega) hro).mpr h7))) (by omega)  ls (lv_sub hl [0, 1, 2, 3] rfl)
  exact loop3 (tc + 1) 0 (Nat.zero_le _) (fun k h9 => absurd h9 (Nat.not_lt_zero _)) (by omega)  ls (lv_sub hl [0, 1, 2, 3] rfl)
