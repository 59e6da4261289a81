theorem rst_len (ch k : VT) : (cs (rst ch k)).length ≤ (cs (skp ch k)).length := by
  unfold rst
  generalize skp ch k = q
  split
  · cases q with
    | mul e r => rw [cs_mul, List.length_append]; show (cs r).length ≤ _; omega
    | _ => exact Nat.le_refl _
  · exact Nat.le_refl _
abbrev b_V_get : ByteArray := prog_1_method_15_code
abbrev y_V_get : MethodName := ⟨"ValueTrees", "get", "(III)I"⟩
abbrev w_V_get : List Cond := .code y_V_get b_V_get 7 (Option.some .int) :: gt
theorem hd_V_get : (y_V_get).cls ≠ "java/lang/invoke/MethodHandle" ∧ (y_V_get).cls ≠ "java/lang/invoke/VarHandle" ∧ (parseMethodDescriptor (y_V_get).desc).map (fun d => d.parameters.length) = some 3 := by decide +kernel
theorem d_V_get_0 : decode b_V_get 0 = .ok (.aload_n 0, 1) := by decide +kernel
theorem d_V_get_1 : decode b_V_get 1 = .ok (.iload_n 2, 1) := by decide +kernel
theorem d_V_get_2 : decode b_V_get 2 = .ok (.iload_n 3, 1) := by decide +kernel
theorem d_V_get_3 : decode b_V_get 3 = .ok (.invokevirtual 150, 3) := by decide +kernel
theorem d_V_get_6 : decode b_V_get 6 = .ok (.astore 4, 2) := by decide +kernel
theorem d_V_get_8 : decode b_V_get 8 = .ok (.aload_n 0, 1) := by decide +kernel
theorem d_V_get_9 : decode b_V_get 9 = .ok (.iload_n 3, 1) := by decide +kernel
theorem d_V_get_10 : decode b_V_get 10 = .ok (.invokevirtual 77, 3) := by decide +kernel
theorem d_V_get_13 : decode b_V_get 13 = .ok (.astore 5, 2) := by decide +kernel
theorem d_V_get_15 : decode b_V_get 15 = .ok (.aload 4, 2) := by decide +kernel
theorem d_V_get_17 : decode b_V_get 17 = .ok (.ifnull 8, 3) := by decide +kernel
theorem d_V_get_20 : decode b_V_get 20 = .ok (.aload 5, 2) := by decide +kernel
theorem d_V_get_22 : decode b_V_get 22 = .ok (.ifnonnull 5, 3) := by decide +kernel
theorem d_V_get_25 : decode b_V_get 25 = .ok (.iconst (-1), 1) := by decide +kernel
theorem d_V_get_26 : decode b_V_get 26 = .ok (.ireturn, 1) := by decide +kernel
theorem d_V_get_27 : decode b_V_get 27 = .ok (.aload 4, 2) := by decide +kernel
theorem d_V_get_29 : decode b_V_get 29 = .ok (.aload 5, 2) := by decide +kernel
theorem d_V_get_31 : decode b_V_get 31 = .ok (.invokestatic 165, 3) := by decide +kernel
theorem d_V_get_34 : decode b_V_get 34 = .ok (.istore 6, 2) := by decide +kernel
theorem d_V_get_36 : decode b_V_get 36 = .ok (.aload 4, 2) := by decide +kernel
theorem d_V_get_38 : decode b_V_get 38 = .ok (.iload 6, 2) := by decide +kernel
theorem d_V_get_40 : decode b_V_get 40 = .ok (.aload 5, 2) := by decide +kernel
theorem d_V_get_42 : decode b_V_get 42 = .ok (.invokestatic 169, 3) := by decide +kernel
theorem d_V_get_45 : decode b_V_get 45 = .ok (.ifCond .eq 22, 3) := by decide +kernel
theorem d_V_get_48 : decode b_V_get 48 = .ok (.aload_n 0, 1) := by decide +kernel
theorem d_V_get_49 : decode b_V_get 49 = .ok (.iload_n 1, 1) := by decide +kernel
theorem d_V_get_50 : decode b_V_get 50 = .ok (.aload 4, 2) := by decide +kernel
theorem d_V_get_52 : decode b_V_get 52 = .ok (.getfield 196, 3) := by decide +kernel
theorem d_V_get_55 : decode b_V_get 55 = .ok (.iload 6, 2) := by decide +kernel
theorem d_V_get_57 : decode b_V_get 57 = .ok (.aaload, 1) := by decide +kernel
theorem d_V_get_58 : decode b_V_get 58 = .ok (.getfield 200, 3) := by decide +kernel
theorem d_V_get_61 : decode b_V_get 61 = .ok (.invokevirtual 73, 3) := by decide +kernel
theorem d_V_get_64 : decode b_V_get 64 = .ok (.goto 4, 3) := by decide +kernel
theorem d_V_get_67 : decode b_V_get 67 = .ok (.iconst (-1), 1) := by decide +kernel
theorem d_V_get_68 : decode b_V_get 68 = .ok (.ireturn, 1) := by decide +kernel
set_option maxHeartbeats 4000000 in
set_option maxRecDepth 100000 in
theorem p_V_get (l : Launch) (D : va_G) (dT : Nat → ClassId) (H : Heap) (Bq : Nat → Prop) (vv rg li ed : Nat) (tb : Nat → TR) (tc : Nat) (RV : Nat → Option VT) (hC : cI D dT Bq vv rg li ed tb tc RV H) (hV : vOK tb tc RV) (r tr ky : Int32) : Met l y_V_get w_V_get ({ frames := 46, cells := 0, slots := 0, locals := 1772 }) (z_P D dT [.ref vv, .int r, .int tr, .int ky] H) (z_Q (fun q => q = rg ∨ H.size ≤ q) (fun v H1 => v = some (.int (kp RV r (o_get tb RV tr ky)).1) ∧ cI D dT Bq vv rg li ed tb tc (kp RV r (o_get tb RV tr ky)).2 H1)) 0 0 (fun q => q = rg ∨ H.size ≤ q) := by
  obtain ⟨⟨hBs, hBr, hBl, hBe, hBv, hrl, hre, hle⟩, hvv, hCR, hCT⟩ := id hC
  have hO := hV.1
  have htc := hO.1
  have htc10 := hO.2.1
  refine Met.ofW (cc := b_V_get) (maxL := 7) (ret := (Option.some .int)) (by decide) rfl ?_
  intro p e s m args below meth c s₁ B hml hv
  obtain ⟨rfl, rfl, hK⟩ := hv
  have hx := B.exec
  have hb := B.bytes
  have hr := B.returns
  have hts := atoms_spec (ws := w_V_get) B.pre
  have ht : ∀ w9 ∈ gt, w9.before [.ref vv, .int r, .int tr, .int ky].toArray s = true := fun w9 h => hts w9 (List.mem_cons_of_mem _ h)
  have hown : s.vm.findClass "ValueTrees" = some m.cls := findClass_of_methodNamed B.named
  have hlocks := B.notSynchronized
  have hS : va_S (fun q => q = rg ∨ s.heap.size ≤ q) s.heap s.heap [] := va_S.rf
  have hl := lv_entry ([.ref vv, .int r, .int tr, .int ky]) (n := 7) (Nat.le_of_ble_eq_true rfl)
  rw [lg_entry_eq]
  generalize (lg_sl ([.ref vv, .int r, .int tr, .int ky]) ++ List.replicate (7 - (lg_sl ([.ref vv, .int r, .int tr, .int ky])).length) Slot.unset).toArray = ls at hl ⊢
  have hl : lv_has ls 7 [(0, .ref vv), (1, .int r), (2, .int tr), (3, .int ky)] := hl
  have hN : nU s.heap s.heap := nU.rf
  refine lv_aload_n hx hb d_V_get_0 rfl (lv_at hl 0 rfl) ?_
  refine lv_iload_n hx hb d_V_get_1 rfl (lv_at hl 2 rfl) ?_
  refine lv_iload_n hx hb d_V_get_2 rfl (lv_at hl 3 rfl) ?_
  refine z_callR (va_runV (C := "ValueTrees") (As := [.int tr, .int ky]) (rest := []) ⟨hx, hb, hml, hown, hts⟩ (c_V_treeFor l D dT _ Bq vv rg li ed tb tc RV (hC.up hN) hV tr ky) ⟨callB_of 2 hts (gI gd_up gd_c q419) rfl rfl rfl (ht _ q1) (ht _ q416) hd_V_treeFor ⟨Nat.le_of_ble_eq_true rfl, Nat.le_of_ble_eq_true rfl⟩, ht _ q418, ht _ qs12⟩ (z_preV hK (va_recv hK.1 (z_1 (hvv.grew hN.2)) (ci := 0) (q0 := 0) rfl rfl)) rfl rfl hl.1 rfl (lv_room (Nat.le_of_ble_eq_true rfl)) d_V_get_3 ⟨Nat.zero_le _, Nat.zero_le _⟩) (fun v2 hv1 => ?_)
  rcases hv1 with ⟨rfl, haf⟩ | ⟨at9, ch, tt, kv, rfl, hat, hrt, hrk, hra⟩
  · refine lv_astoreN (lv' := [(4, .null), (0, .ref vv), (1, .int r), (2, .int tr), (3, .int ky)]) hx hb d_V_get_6 hl (by decide) rfl (fun ls hl => ?_)
    refine lv_aload_n hx hb d_V_get_8 rfl (lv_at hl 1 rfl) ?_
    refine lv_iload_n hx hb d_V_get_9 rfl (lv_at hl 4 rfl) ?_
    refine z_callR (va_runV (C := "ValueTrees") (As := [.int ky]) (rest := []) ⟨hx, hb, hml, hown, hts⟩ (c_V_held l D dT _ Bq vv rg li ed tb tc RV (hC.up hN) hV ky) ⟨callB_of 1 hts (gI gd_up gd_c q275) rfl rfl rfl (ht _ q1) (ht _ q272) hd_V_held ⟨Nat.le_of_ble_eq_true rfl, Nat.le_of_ble_eq_true rfl⟩, ht _ q274, ht _ qs7⟩ (z_preV hK (va_recv hK.1 (z_1 (hvv.grew hN.2)) (ci := 0) (q0 := 0) rfl rfl)) rfl rfl hl.1 rfl (lv_room (Nat.le_of_ble_eq_true rfl)) d_V_get_10 ⟨Nat.zero_le _, Nat.zero_le _⟩) (fun v4 hv3 => ?_)
    rcases hv3 with ⟨rfl, hr7⟩ | ⟨a5, v6, rfl, hr7, hq6⟩
    · refine lv_astoreN (lv' := [(5, .null), (4, .null), (0, .ref vv), (1, .int r), (2, .int tr), (3, .int ky)]) hx hb d_V_get_13 hl (by decide) rfl (fun ls hl => ?_)
      refine lv_aloadN hx hb d_V_get_15 (lv_at hl 1 rfl) ?_
      refine lv_ifnullN (tgt := 25) hx hb d_V_get_17 (by decide) ?_
      refine lv_iconst (v := (-1)) hx hb d_V_get_25 (by decide) ?_
      exact z_iretQ hx hb hr hlocks d_V_get_26 hS (Nat.le_of_ble_eq_true rfl) (Nat.le_of_ble_eq_true rfl) (by rw [show o_get tb RV tr ky = none from (by unfold o_get; rw [if_neg (by rw [haf]; decide)])]; exact ⟨rfl, hC⟩)
    · obtain ⟨ht6, hw6, hl6⟩ := vOK_get hV hr7
      obtain ⟨hh6, hnb6⟩ := rv_hd hw6 hq6
      refine lv_astore (lv' := [(5, .ref a5), (4, .null), (0, .ref vv), (1, .int r), (2, .int tr), (3, .int ky)]) hx hb d_V_get_13 hl (by decide) rfl (fun ls hl => ?_)
      refine lv_aloadN hx hb d_V_get_15 (lv_at hl 1 rfl) ?_
      refine lv_ifnullN (tgt := 25) hx hb d_V_get_17 (by decide) ?_
      refine lv_iconst (v := (-1)) hx hb d_V_get_25 (by decide) ?_
      exact z_iretQ hx hb hr hlocks d_V_get_26 hS (Nat.le_of_ble_eq_true rfl) (Nat.le_of_ble_eq_true rfl) (by rw [show o_get tb RV tr ky = none from (by unfold o_get; rw [if_neg (by rw [haf]; decide)])]; exact ⟨rfl, hC⟩)
  · obtain ⟨htl, hwd, hwc, hwk, hlc, hlk⟩ := tf_facts hV hat hrt hrk
    obtain ⟨ea, fe, oa, hna, oe, hne, hch⟩ := rv_neg.mp hra
    have hcle := clen_le hwc
    have hlt := (tl_some hO htl (by omega)).2.1
    refine lv_astore (lv' := [(4, .ref at9), (0, .ref vv), (1, .int r), (2, .int tr), (3, .int ky)]) hx hb d_V_get_6 hl (by decide) rfl (fun ls hl => ?_)
    refine lv_aload_n hx hb d_V_get_8 rfl (lv_at hl 1 rfl) ?_
    refine lv_iload_n hx hb d_V_get_9 rfl (lv_at hl 4 rfl) ?_
    refine z_callR (va_runV (C := "ValueTrees") (As := [.int ky]) (rest := []) ⟨hx, hb, hml, hown, hts⟩ (c_V_held l D dT _ Bq vv rg li ed tb tc RV (hC.up hN) hV ky) ⟨callB_of 1 hts (gI gd_up gd_c q275) rfl rfl rfl (ht _ q1) (ht _ q272) hd_V_held ⟨Nat.le_of_ble_eq_true rfl, Nat.le_of_ble_eq_true rfl⟩, ht _ q274, ht _ qs7⟩ (z_preV hK (va_recv hK.1 (z_1 (hvv.grew hN.2)) (ci := 0) (q0 := 0) rfl rfl)) rfl rfl hl.1 rfl (lv_room (Nat.le_of_ble_eq_true rfl)) d_V_get_10 ⟨Nat.zero_le _, Nat.zero_le _⟩) (fun v9 hv8 => ?_)
    rcases hv8 with ⟨rfl, hr12⟩ | ⟨a10, v11, rfl, hr12, hq11⟩
    · rw [hrk] at hr12; cases hr12
    · have ev11 : kv = v11 := Option.some.inj (hrk.symm.trans hr12)
      subst ev11
      obtain ⟨ht11, hw11, hl11⟩ := vOK_get hV hr12
      obtain ⟨hh11, hnb11⟩ := rv_hd hw11 hq11
      refine lv_astore (lv' := [(5, .ref a10), (4, .ref at9), (0, .ref vv), (1, .int r), (2, .int tr), (3, .int ky)]) hx hb d_V_get_13 hl (by decide) rfl (fun ls hl => ?_)
      refine lv_aload hx hb d_V_get_15 (lv_at hl 1 rfl) ?_
      refine lv_ifnull hx hb d_V_get_17 ?_
      refine lv_aload hx hb d_V_get_20 (lv_at hl 0 rfl) ?_
      refine lv_ifnonnull (tgt := 27) hx hb d_V_get_22 (by decide) ?_
      refine lv_aload hx hb d_V_get_27 (lv_at hl 1 rfl) ?_
      refine lv_aload hx hb d_V_get_29 (lv_at hl 0 rfl) ?_
      refine z_callR (va_runS (As := [.ref at9, .ref a10]) (rest := []) ⟨hx, hb, hml, hown, hts⟩ (c_V_placeOf l D dT _ Bq tb tc hO at9 a10 ch kv tt htl hwd hwc hwk (rq_up hN.2 hra) (rq_up hN.2 hq11) (by omega)) ⟨callB_of 2 hts (gI gd_up gd_c q443) rfl rfl rfl (ht _ q1) (ht _ q441) hd_V_placeOf ⟨Nat.le_of_ble_eq_true rfl, Nat.le_of_ble_eq_true rfl⟩, ht _ q442⟩ (z_preS hK) rfl rfl hl.1 rfl (lv_room (Nat.le_of_ble_eq_true rfl)) d_V_get_31 ⟨Nat.zero_le _, Nat.zero_le _⟩) (fun v14 hv13 => ?_)
      subst hv13
      refine lv_istore (lv' := [(6, .int (nI (clen (prc ch kv)))), (5, .ref a10), (4, .ref at9), (0, .ref vv), (1, .int r), (2, .int tr), (3, .int ky)]) hx hb d_V_get_34 hl (by decide) rfl (fun ls hl => ?_)
      refine lv_aload hx hb d_V_get_36 (lv_at hl 2 rfl) ?_
      refine lv_iload hx hb d_V_get_38 (lv_at hl 0 rfl) ?_
      refine lv_aload hx hb d_V_get_40 (lv_at hl 1 rfl) ?_
      refine z_callR (va_runS (As := [.ref at9, .int (nI (clen (prc ch kv))), .ref a10]) (rest := []) ⟨hx, hb, hml, hown, hts⟩ (c_V_isAt l D dT _ Bq tb tc hO at9 a10 ch kv tt htl hwd hwc hwk (rq_up hN.2 hra) (rq_up hN.2 hq11) (by omega)) ⟨callB_of 3 hts (gI gd_up gd_c q466) rfl rfl rfl (ht _ q1) (ht _ q464) hd_V_isAt ⟨Nat.le_of_ble_eq_true rfl, Nat.le_of_ble_eq_true rfl⟩, ht _ q465⟩ (z_preS hK) rfl rfl hl.1 rfl (lv_room (Nat.le_of_ble_eq_true rfl)) d_V_get_42 ⟨Nat.zero_le _, Nat.zero_le _⟩) (fun v16 hv15 => ?_)
      have hv15 : v16 = .int (if thr (skp ch kv) kv = true then 1 else 0) := hv15
      rcases Classical.em (thr (skp ch kv) kv = true) with hth | hth
      · rw [if_pos hth] at hv15
        subst hv15
        refine lv_if_eq (tgt := 67) hx hb d_V_get_45 (by decide) (fun c18 => absurd c18 (by decide)) (fun _ => ?_)
        have hpl := thr_lt hth
        obtain ⟨e9, r9, hsk, hn9, hwe9, hel9, hwr9⟩ := at_place (k := kv) hwc hpl
        obtain ⟨b9, hfb9, hrb9⟩ := rc_nth hch hn9
        rw [Nat.zero_add] at hfb9
        obtain ⟨ka9, vv9, ob9, hnb9, hwk9, hrk9, ⟨rfl, hv9⟩ | ⟨c9, x9, rfl, hv9, hwx9, hrx9⟩⟩ := re_at hwe9 hrb9
        · refine lv_aload_n hx hb d_V_get_48 rfl (lv_at hl 3 rfl) ?_
          refine lv_iload_n hx hb d_V_get_49 rfl (lv_at hl 4 rfl) ?_
          refine lv_aload hx hb d_V_get_50 (lv_at hl 2 rfl) ?_
          refine va_get (D := D) (ci := 7) (v := .ref ea) (C := "ValueTrees$Tree") (T := T_Tree) (N := 3) hx hb ht in_Tree hown hK.1 (z_1 (oa.grew hN.2)) 0 rfl rfl 2 (by decide) (ht _ q358) (fun _ h9 => h9) rfl d_V_get_52 ?_
          refine lv_iload hx hb d_V_get_55 (lv_at hl 0 rfl) ?_
          refine z_aald (v := .ref b9) hx hb hK (oe.grew hN.2) rfl (clen (prc ch kv)) rfl (by omega) (by omega) (by rw [hfb9]; rfl) d_V_get_57 ?_
          refine va_get (D := D) (ci := 8) (v := .null) (C := "ValueTrees$Entry") (T := T_Entry) (N := 3) hx hb ht in_Entry hown hK.1 (z_1 (ob9.grew hN.2)) 0 rfl rfl 1 (by decide) (ht _ q428) (fun _ h9 => h9) rfl d_V_get_58 ?_
          refine z_callQ (va_runV (C := "ValueTrees") (As := [.int r, .null]) (rest := []) ⟨hx, hb, hml, hown, hts⟩ (c_V_keep_n l D dT _ Bq vv rg li ed tb tc RV (hC.up hN) hV r) ⟨callB_of 2 hts (gI gd_up gd_c q264) rfl rfl rfl (ht _ q1) (ht _ q261) hd_V_keep ⟨Nat.le_of_ble_eq_true rfl, Nat.le_of_ble_eq_true rfl⟩, ht _ q263, ht _ qs6⟩ (z_preV hK (va_recv hK.1 (z_1 (hvv.grew hN.2)) (ci := 0) (q0 := 0) rfl rfl)) rfl rfl hl.1 rfl (lv_room (Nat.le_of_ble_eq_true rfl)) d_V_get_61 ⟨(Nat.le_of_ble_eq_true rfl), (Nat.le_of_ble_eq_true rfl)⟩) hS (fun _ h9 => Or.inl h9) (fun v20 H locs hv19 hz21 hf22 hS => ?_)
          obtain ⟨rfl, hC⟩ := hv19
          refine W.eq (g2 := F0 m 64 ls [.int ((kp RV r none).1)]) rfl ?_
          refine lv_goto (tgt := 68) hx hb d_V_get_64 (by decide) ?_
          exact z_iretQ hx hb hr hlocks d_V_get_68 hS (Nat.le_of_ble_eq_true rfl) (Nat.le_of_ble_eq_true rfl) (by rw [show o_get tb RV tr ky = none from (by unfold o_get; rw [if_pos hat, hrt, hrk]; dsimp only; refine (if_pos hth).trans ?_; show (fstE (skp ch kv)).bind valOf = _; rw [hsk]; exact hv9)]; exact ⟨rfl, hC⟩)
        · refine lv_aload_n hx hb d_V_get_48 rfl (lv_at hl 3 rfl) ?_
          refine lv_iload_n hx hb d_V_get_49 rfl (lv_at hl 4 rfl) ?_
          refine lv_aload hx hb d_V_get_50 (lv_at hl 2 rfl) ?_
          refine va_get (D := D) (ci := 7) (v := .ref ea) (C := "ValueTrees$Tree") (T := T_Tree) (N := 3) hx hb ht in_Tree hown hK.1 (z_1 (oa.grew hN.2)) 0 rfl rfl 2 (by decide) (ht _ q358) (fun _ h9 => h9) rfl d_V_get_52 ?_
          refine lv_iload hx hb d_V_get_55 (lv_at hl 0 rfl) ?_
          refine z_aald (v := .ref b9) hx hb hK (oe.grew hN.2) rfl (clen (prc ch kv)) rfl (by omega) (by omega) (by rw [hfb9]; rfl) d_V_get_57 ?_
          refine va_get (D := D) (ci := 8) (v := .ref c9) (C := "ValueTrees$Entry") (T := T_Entry) (N := 3) hx hb ht in_Entry hown hK.1 (z_1 (ob9.grew hN.2)) 0 rfl rfl 1 (by decide) (ht _ q428) (fun _ h9 => h9) rfl d_V_get_58 ?_
          have hxl9 : (cs x9).length ≤ (eb e9).length := by
            cases e9 with
            | add k v => cases hv9; rw [eb_add]; omega
            | _ => cases hv9
          refine z_callQ (va_runV (C := "ValueTrees") (As := [.int r, .ref c9]) (rest := []) ⟨hx, hb, hml, hown, hts⟩ (c_V_keep_r l D dT _ Bq vv rg li ed tb tc RV (hC.up hN) hV r x9 (rt_ tb tt) c9 hwx9 (rq_up hN.2 hrx9) (by omega)) ⟨callB_of 2 hts (gI gd_up gd_c q264) rfl rfl rfl (ht _ q1) (ht _ q261) hd_V_keep ⟨Nat.le_of_ble_eq_true rfl, Nat.le_of_ble_eq_true rfl⟩, ht _ q263, ht _ qs6⟩ (z_preV hK (va_recv hK.1 (z_1 (hvv.grew hN.2)) (ci := 0) (q0 := 0) rfl rfl)) rfl rfl hl.1 rfl (lv_room (Nat.le_of_ble_eq_true rfl)) d_V_get_61 ⟨(Nat.le_of_ble_eq_true rfl), (Nat.le_of_ble_eq_true rfl)⟩) hS (fun _ h9 => Or.inl h9) (fun v24 H locs hv23 hz25 hf26 hS => ?_)
          obtain ⟨rfl, hC⟩ := hv23
          refine W.eq (g2 := F0 m 64 ls [.int ((kp RV r (some x9)).1)]) rfl ?_
          refine lv_goto (tgt := 68) hx hb d_V_get_64 (by decide) ?_
          exact z_iretQ hx hb hr hlocks d_V_get_68 hS (Nat.le_of_ble_eq_true rfl) (Nat.le_of_ble_eq_true rfl) (by rw [show o_get tb RV tr ky = (some x9) from (by unfold o_get; rw [if_pos hat, hrt, hrk]; dsimp only; refine (if_pos hth).trans ?_; show (fstE (skp ch kv)).bind valOf = _; rw [hsk]; exact hv9)]; exact ⟨rfl, hC⟩)
      · rw [if_neg hth] at hv15
        subst hv15
        refine lv_if_eq (tgt := 67) hx hb d_V_get_45 (by decide) (fun _ => ?_) (fun c27 => absurd c27 (by decide))
        refine lv_iconst (v := (-1)) hx hb d_V_get_67 (by decide) ?_
        exact z_iretQ hx hb hr hlocks d_V_get_68 hS (Nat.le_of_ble_eq_true rfl) (Nat.le_of_ble_eq_true rfl) (by rw [show o_get tb RV tr ky = none from (by unfold o_get; rw [if_pos hat, hrt, hrk]; dsimp only; exact if_neg hth)]; exact ⟨rfl, hC⟩)
abbrev b_V_at : ByteArray := prog_1_method_16_code
abbrev y_V_at : MethodName := ⟨"ValueTrees", "at", "(IIII)I"⟩
abbrev w_V_at : List Cond := .code y_V_at b_V_at 7 (Option.some .int) :: gt
theorem hd_V_at : (y_V_at).cls ≠ "java/lang/invoke/MethodHandle" ∧ (y_V_at).cls ≠ "java/lang/invoke/VarHandle" ∧ (parseMethodDescriptor (y_V_at).desc).map (fun d => d.parameters.length) = some 4 := by decide +kernel
theorem d_V_at_0 : decode b_V_at 0 = .ok (.aload_n 0, 1) := by decide +kernel
theorem d_V_at_1 : decode b_V_at 1 = .ok (.iload_n 2, 1) := by decide +kernel
theorem d_V_at_2 : decode b_V_at 2 = .ok (.invokevirtual 77, 3) := by decide +kernel
theorem d_V_at_5 : decode b_V_at 5 = .ok (.astore 6, 2) := by decide +kernel
theorem d_V_at_7 : decode b_V_at 7 = .ok (.aload 6, 2) := by decide +kernel
theorem d_V_at_9 : decode b_V_at 9 = .ok (.instanceof 118, 3) := by decide +kernel
theorem d_V_at_12 : decode b_V_at 12 = .ok (.ifCond .eq 24, 3) := by decide +kernel
theorem d_V_at_15 : decode b_V_at 15 = .ok (.aload 6, 2) := by decide +kernel
theorem d_V_at_17 : decode b_V_at 17 = .ok (.checkcast 118, 3) := by decide +kernel
theorem d_V_at_20 : decode b_V_at 20 = .ok (.astore 5, 2) := by decide +kernel
theorem d_V_at_22 : decode b_V_at 22 = .ok (.iload_n 3, 1) := by decide +kernel
theorem d_V_at_23 : decode b_V_at 23 = .ok (.ifCond .lt 13, 3) := by decide +kernel
theorem d_V_at_26 : decode b_V_at 26 = .ok (.iload_n 3, 1) := by decide +kernel
theorem d_V_at_27 : decode b_V_at 27 = .ok (.aload 5, 2) := by decide +kernel
theorem d_V_at_29 : decode b_V_at 29 = .ok (.getfield 196, 3) := by decide +kernel
theorem d_V_at_32 : decode b_V_at 32 = .ok (.arraylength, 1) := by decide +kernel
theorem d_V_at_33 : decode b_V_at 33 = .ok (.if_icmp .lt 5, 3) := by decide +kernel
theorem d_V_at_36 : decode b_V_at 36 = .ok (.iconst (-1), 1) := by decide +kernel
theorem d_V_at_37 : decode b_V_at 37 = .ok (.ireturn, 1) := by decide +kernel
theorem d_V_at_38 : decode b_V_at 38 = .ok (.aload_n 0, 1) := by decide +kernel
theorem d_V_at_39 : decode b_V_at 39 = .ok (.iload_n 1, 1) := by decide +kernel
theorem d_V_at_40 : decode b_V_at 40 = .ok (.iload 4, 2) := by decide +kernel
theorem d_V_at_42 : decode b_V_at 42 = .ok (.aload 5, 2) := by decide +kernel
theorem d_V_at_44 : decode b_V_at 44 = .ok (.getfield 196, 3) := by decide +kernel
theorem d_V_at_47 : decode b_V_at 47 = .ok (.iload_n 3, 1) := by decide +kernel
theorem d_V_at_48 : decode b_V_at 48 = .ok (.aaload, 1) := by decide +kernel
theorem d_V_at_49 : decode b_V_at 49 = .ok (.getfield 203, 3) := by decide +kernel
theorem d_V_at_52 : decode b_V_at 52 = .ok (.aload 5, 2) := by decide +kernel
theorem d_V_at_54 : decode b_V_at 54 = .ok (.getfield 196, 3) := by decide +kernel
theorem d_V_at_57 : decode b_V_at 57 = .ok (.iload_n 3, 1) := by decide +kernel
theorem d_V_at_58 : decode b_V_at 58 = .ok (.aaload, 1) := by decide +kernel
theorem d_V_at_59 : decode b_V_at 59 = .ok (.getfield 200, 3) := by decide +kernel
theorem d_V_at_62 : decode b_V_at 62 = .ok (.invokestatic 181, 3) := by decide +kernel
theorem d_V_at_65 : decode b_V_at 65 = .ok (.invokevirtual 73, 3) := by decide +kernel
theorem d_V_at_68 : decode b_V_at 68 = .ok (.ireturn, 1) := by decide +kernel
set_option maxHeartbeats 4000000 in
set_option maxRecDepth 100000 in
theorem p_V_at (l : Launch) (D : va_G) (dT : Nat → ClassId) (H : Heap) (Bq : Nat → Prop) (vv rg li ed : Nat) (tb : Nat → TR) (tc : Nat) (RV : Nat → Option VT) (hC : cI D dT Bq vv rg li ed tb tc RV H) (hV : vOK tb tc RV) (r tr i wh9 : Int32) : Met l y_V_at w_V_at ({ frames := 2, cells := 0, slots := 0, locals := 42 }) (z_P D dT [.ref vv, .int r, .int tr, .int i, .int wh9] H) (z_Q (fun q => q = rg ∨ H.size ≤ q) (fun v H1 => v = some (.int (kp RV r (o_at RV tr i wh9)).1) ∧ cI D dT Bq vv rg li ed tb tc (kp RV r (o_at RV tr i wh9)).2 H1)) 0 0 (fun q => q = rg ∨ H.size ≤ q) := by
  obtain ⟨⟨hBs, hBr, hBl, hBe, hBv, hrl, hre, hle⟩, hvv, hCR, hCT⟩ := id hC
  have hO := hV.1
  have htc := hO.1
  have htc10 := hO.2.1
  refine Met.ofW (cc := b_V_at) (maxL := 7) (ret := (Option.some .int)) (by decide) rfl ?_
  intro p e s m args below meth c s₁ B hml hv
  obtain ⟨rfl, rfl, hK⟩ := hv
  have hx := B.exec
  have hb := B.bytes
  have hr := B.returns
  have hts := atoms_spec (ws := w_V_at) B.pre
  have ht : ∀ w9 ∈ gt, w9.before [.ref vv, .int r, .int tr, .int i, .int wh9].toArray s = true := fun w9 h => hts w9 (List.mem_cons_of_mem _ h)
  have hown : s.vm.findClass "ValueTrees" = some m.cls := findClass_of_methodNamed B.named
  have hlocks := B.notSynchronized
  have hS : va_S (fun q => q = rg ∨ s.heap.size ≤ q) s.heap s.heap [] := va_S.rf
  have hl := lv_entry ([.ref vv, .int r, .int tr, .int i, .int wh9]) (n := 7) (Nat.le_of_ble_eq_true rfl)
  rw [lg_entry_eq]
  generalize (lg_sl ([.ref vv, .int r, .int tr, .int i, .int wh9]) ++ List.replicate (7 - (lg_sl ([.ref vv, .int r, .int tr, .int i, .int wh9])).length) Slot.unset).toArray = ls at hl ⊢
  have hl : lv_has ls 7 [(0, .ref vv), (1, .int r), (2, .int tr), (3, .int i), (4, .int wh9)] := hl
  have hN : nU s.heap s.heap := nU.rf
  refine lv_aload_n hx hb d_V_at_0 rfl (lv_at hl 0 rfl) ?_
  refine lv_iload_n hx hb d_V_at_1 rfl (lv_at hl 2 rfl) ?_
  refine z_callR (va_runV (C := "ValueTrees") (As := [.int tr]) (rest := []) ⟨hx, hb, hml, hown, hts⟩ (c_V_held l D dT _ Bq vv rg li ed tb tc RV (hC.up hN) hV tr) ⟨callB_of 1 hts (gI gd_up gd_c q275) rfl rfl rfl (ht _ q1) (ht _ q272) hd_V_held ⟨Nat.le_of_ble_eq_true rfl, Nat.le_of_ble_eq_true rfl⟩, ht _ q274, ht _ qs7⟩ (z_preV hK (va_recv hK.1 (z_1 (hvv.grew hN.2)) (ci := 0) (q0 := 0) rfl rfl)) rfl rfl hl.1 rfl (lv_room (Nat.le_of_ble_eq_true rfl)) d_V_at_2 ⟨Nat.zero_le _, Nat.zero_le _⟩) (fun v2 hv1 => ?_)
  rcases hv1 with ⟨rfl, hr5⟩ | ⟨a3, v4, rfl, hr5, hq4⟩
  · refine lv_astoreN (lv' := [(6, .null), (0, .ref vv), (1, .int r), (2, .int tr), (3, .int i), (4, .int wh9)]) hx hb d_V_at_5 hl (by decide) rfl (fun ls hl => ?_)
    refine lv_aloadN hx hb d_V_at_7 (lv_at hl 0 rfl) ?_
    refine lv_instN hx hb d_V_at_9 ?_
    refine lv_if_eq (tgt := 36) hx hb d_V_at_12 (by decide) (fun _ => ?_) (fun c6 => absurd c6 (by decide))
    refine lv_iconst (v := (-1)) hx hb d_V_at_36 (by decide) ?_
    exact z_iretQ hx hb hr hlocks d_V_at_37 hS (Nat.le_of_ble_eq_true rfl) (Nat.le_of_ble_eq_true rfl) (by rw [show o_at RV tr i wh9 = none from (by unfold o_at; rw [hr5]; rfl)]; exact ⟨rfl, hC⟩)
  · obtain ⟨ht4, hw4, hl4⟩ := vOK_get hV hr5
    obtain ⟨hh4, hnb4⟩ := rv_hd hw4 hq4
    obtain ⟨c4, ec4, hc4⟩ := wty_pow hw4
    rw [ec4] at hq4
    cases c4 with
    | num z4 =>
      obtain ⟨d4, oa4, hna4, od4, hnd4⟩ := rv_num.mp hq4
      have hnb4 : nb z4.natAbs ≤ 1024 := nb_lt.mpr hc4.2.2.1
      refine lv_astore (lv' := [(6, .ref a3), (0, .ref vv), (1, .int r), (2, .int tr), (3, .int i), (4, .int wh9)]) hx hb d_V_at_5 hl (by decide) rfl (fun ls hl => ?_)
      refine lv_aload hx hb d_V_at_7 (lv_at hl 0 rfl) ?_
      refine va_instNo (C := "ValueTrees$Whole") hx hb hown (ht _ q349) (hK.2.1 _ nc_Whole_Tree) (z_recv hK (oa4.grew hN.2) rfl) d_V_at_9 ?_
      refine lv_if_eq (tgt := 36) hx hb d_V_at_12 (by decide) (fun _ => ?_) (fun c7 => absurd c7 (by decide))
      refine lv_iconst (v := (-1)) hx hb d_V_at_36 (by decide) ?_
      exact z_iretQ hx hb hr hlocks d_V_at_37 hS (Nat.le_of_ble_eq_true rfl) (Nat.le_of_ble_eq_true rfl) (by rw [show o_at RV tr i wh9 = none from (by unfold o_at; rw [hr5, ec4]; rfl)]; exact ⟨rfl, hC⟩)
    | natCast k4 =>
      obtain ⟨x4, oa4, hna4, hx4⟩ := rv_row.mp hq4
      have hk4 : k4 % 16 ≤ 8 := hc4.2.2.1
      refine lv_astore (lv' := [(6, .ref a3), (0, .ref vv), (1, .int r), (2, .int tr), (3, .int i), (4, .int wh9)]) hx hb d_V_at_5 hl (by decide) rfl (fun ls hl => ?_)
      refine lv_aload hx hb d_V_at_7 (lv_at hl 0 rfl) ?_
      refine va_instNo (C := "ValueTrees$Row") hx hb hown (ht _ q349) (hK.2.1 _ nc_Row_Tree) (z_recv hK (oa4.grew hN.2) rfl) d_V_at_9 ?_
      refine lv_if_eq (tgt := 36) hx hb d_V_at_12 (by decide) (fun _ => ?_) (fun c8 => absurd c8 (by decide))
      refine lv_iconst (v := (-1)) hx hb d_V_at_36 (by decide) ?_
      exact z_iretQ hx hb hr hlocks d_V_at_37 hS (Nat.le_of_ble_eq_true rfl) (Nat.le_of_ble_eq_true rfl) (by rw [show o_at RV tr i wh9 = none from (by unfold o_at; rw [hr5, ec4]; rfl)]; exact ⟨rfl, hC⟩)
    | intCast k4 =>
      obtain ⟨oa4, hna4⟩ := rv_nil.mp hq4
      refine lv_astore (lv' := [(6, .ref a3), (0, .ref vv), (1, .int r), (2, .int tr), (3, .int i), (4, .int wh9)]) hx hb d_V_at_5 hl (by decide) rfl (fun ls hl => ?_)
      refine lv_aload hx hb d_V_at_7 (lv_at hl 0 rfl) ?_
      refine va_instNo (C := "ValueTrees$Chain") hx hb hown (ht _ q349) (hK.2.1 _ nc_Chain_Tree) (z_recv hK (oa4.grew hN.2) rfl) d_V_at_9 ?_
      refine lv_if_eq (tgt := 36) hx hb d_V_at_12 (by decide) (fun _ => ?_) (fun c9 => absurd c9 (by decide))
      refine lv_iconst (v := (-1)) hx hb d_V_at_36 (by decide) ?_
      exact z_iretQ hx hb hr hlocks d_V_at_37 hS (Nat.le_of_ble_eq_true rfl) (Nat.le_of_ble_eq_true rfl) (by rw [show o_at RV tr i wh9 = none from (by unfold o_at; rw [hr5, ec4]; rfl)]; exact ⟨rfl, hC⟩)
    | var i4 =>
      obtain ⟨oa4, hna4⟩ := rv_var.mp hq4
      refine lv_astore (lv' := [(6, .ref a3), (0, .ref vv), (1, .int r), (2, .int tr), (3, .int i), (4, .int wh9)]) hx hb d_V_at_5 hl (by decide) rfl (fun ls hl => ?_)
      refine lv_aload hx hb d_V_at_7 (lv_at hl 0 rfl) ?_
      refine va_instNo (C := "ValueTrees$Choice") hx hb hown (ht _ q349) (hK.2.1 _ nc_Choice_Tree) (z_recv hK (oa4.grew hN.2) rfl) d_V_at_9 ?_
      refine lv_if_eq (tgt := 36) hx hb d_V_at_12 (by decide) (fun _ => ?_) (fun c10 => absurd c10 (by decide))
      refine lv_iconst (v := (-1)) hx hb d_V_at_36 (by decide) ?_
      exact z_iretQ hx hb hr hlocks d_V_at_37 hS (Nat.le_of_ble_eq_true rfl) (Nat.le_of_ble_eq_true rfl) (by rw [show o_at RV tr i wh9 = none from (by unfold o_at; rw [hr5, ec4]; rfl)]; exact ⟨rfl, hC⟩)
    | neg ch4 =>
      obtain ⟨e4, f4, oa4, hna4, oe4, hne4, hch4⟩ := rv_neg.mp hq4
      refine lv_astore (lv' := [(6, .ref a3), (0, .ref vv), (1, .int r), (2, .int tr), (3, .int i), (4, .int wh9)]) hx hb d_V_at_5 hl (by decide) rfl (fun ls hl => ?_)
      refine lv_aload hx hb d_V_at_7 (lv_at hl 0 rfl) ?_
      refine va_instE hx hb hown (ht _ q349) (z_recv hK (oa4.grew hN.2) rfl) d_V_at_9 ?_
      refine lv_if_eq (tgt := 36) hx hb d_V_at_12 (by decide) (fun c11 => absurd c11 (by decide)) (fun _ => ?_)
      refine lv_aload hx hb d_V_at_15 (lv_at hl 0 rfl) ?_
      refine va_castE hx hb hown (ht _ q349) (z_recv hK (oa4.grew hN.2) rfl) d_V_at_17 ?_
      refine lv_astore (lv' := [(5, .ref a3), (6, .ref a3), (0, .ref vv), (1, .int r), (2, .int tr), (3, .int i), (4, .int wh9)]) hx hb d_V_at_20 hl (by decide) rfl (fun ls hl => ?_)
      refine lv_iload_n hx hb d_V_at_22 rfl (lv_at hl 5 rfl) ?_
      refine lv_if_lt (tgt := 36) hx hb d_V_at_23 (by decide) (fun c12 => ?_) (fun c12 => ?_)
      · refine lv_iconst (v := (-1)) hx hb d_V_at_36 (by decide) ?_
        exact z_iretQ hx hb hr hlocks d_V_at_37 hS (Nat.le_of_ble_eq_true rfl) (Nat.le_of_ble_eq_true rfl) (by rw [show o_at RV tr i wh9 = none from (by unfold o_at; rw [hr5, ec4]; show (if 0 ≤ i then (match nthE ch4 (i).toNatClampNeg with | some e => if wh9 = 0 then some (kyOf e) else if wh9 = 1 then valOf e else none | none => none) else none) = _; rw [if_neg (fun h9 => absurd c12 (Int32.not_lt.mpr h9))])]; exact ⟨rfl, hC⟩)
      · obtain ⟨ii, hii, rfl⟩ := nI_of (x := i) c12
        obtain ⟨hwd, hwc⟩ := neg_ch hc4
        have hlz : (cs (.pow (.neg ch4) (vty v4))).length ≤ 160 := by rw [← ec4]; exact hl4
        rw [l_neg] at hlz
        have hcle := clen_le hwc
        refine lv_iload_n hx hb d_V_at_26 rfl (lv_at hl 5 rfl) ?_
        refine lv_aload hx hb d_V_at_27 (lv_at hl 0 rfl) ?_
        refine va_get (D := D) (ci := 7) (v := .ref e4) (C := "ValueTrees$Tree") (T := T_Tree) (N := 3) hx hb ht in_Tree hown hK.1 (z_1 (oa4.grew hN.2)) 0 rfl rfl 2 (by decide) (ht _ q358) (fun _ h9 => h9) rfl d_V_at_29 ?_
        refine z_alen hx hb hK (oe4.grew hN.2) rfl d_V_at_32 ?_
        refine lv_icmp_lt (tgt := 38) hx hb d_V_at_33 (by decide) (fun c13 => ?_) (fun c13 => ?_)
        · have nc13 : ii < (clen ch4) := (nI_ltI (a := ii) (b := (clen ch4)) (by omega) (by omega)).mp c13
          obtain ⟨e9, hn9, hwe9, hel9⟩ := nth_lt hwc (k := ii) (by omega)
          obtain ⟨b9, hfb9, hrb9⟩ := rc_nth hch4 hn9
          rw [Nat.zero_add] at hfb9
          have hkl9 := ky_len e9
          obtain ⟨ka9, vv9, ob9, hnb9, hwk9, hrk9, ⟨rfl, hv9⟩ | ⟨c9, x9, rfl, hv9, hwx9, hrx9⟩⟩ := re_at hwe9 hrb9
          · refine lv_aload_n hx hb d_V_at_38 rfl (lv_at hl 2 rfl) ?_
            refine lv_iload_n hx hb d_V_at_39 rfl (lv_at hl 3 rfl) ?_
            refine lv_iload hx hb d_V_at_40 (lv_at hl 6 rfl) ?_
            refine lv_aload hx hb d_V_at_42 (lv_at hl 0 rfl) ?_
            refine va_get (D := D) (ci := 7) (v := .ref e4) (C := "ValueTrees$Tree") (T := T_Tree) (N := 3) hx hb ht in_Tree hown hK.1 (z_1 (oa4.grew hN.2)) 0 rfl rfl 2 (by decide) (ht _ q358) (fun _ h9 => h9) rfl d_V_at_44 ?_
            refine lv_iload_n hx hb d_V_at_47 rfl (lv_at hl 5 rfl) ?_
            refine z_aald (v := .ref b9) hx hb hK (oe4.grew hN.2) rfl ii rfl (by omega) (by omega) (by rw [hfb9]; rfl) d_V_at_48 ?_
            refine va_get (D := D) (ci := 8) (v := .ref ka9) (C := "ValueTrees$Entry") (T := T_Entry) (N := 3) hx hb ht in_Entry hown hK.1 (z_1 (ob9.grew hN.2)) 0 rfl rfl 0 (by decide) (ht _ q426) (fun _ h9 => h9) rfl d_V_at_49 ?_
            refine lv_aload hx hb d_V_at_52 (lv_at hl 0 rfl) ?_
            refine va_get (D := D) (ci := 7) (v := .ref e4) (C := "ValueTrees$Tree") (T := T_Tree) (N := 3) hx hb ht in_Tree hown hK.1 (z_1 (oa4.grew hN.2)) 0 rfl rfl 2 (by decide) (ht _ q358) (fun _ h9 => h9) rfl d_V_at_54 ?_
            refine lv_iload_n hx hb d_V_at_57 rfl (lv_at hl 5 rfl) ?_
            refine z_aald (v := .ref b9) hx hb hK (oe4.grew hN.2) rfl ii rfl (by omega) (by omega) (by rw [hfb9]; rfl) d_V_at_58 ?_
            refine va_get (D := D) (ci := 8) (v := .null) (C := "ValueTrees$Entry") (T := T_Entry) (N := 3) hx hb ht in_Entry hown hK.1 (z_1 (ob9.grew hN.2)) 0 rfl rfl 1 (by decide) (ht _ q428) (fun _ h9 => h9) rfl d_V_at_59 ?_
            refine z_callR (va_runS (As := [.int wh9, .ref ka9, .null]) (rest := [.int r, .ref vv]) ⟨hx, hb, hml, hown, hts⟩ (c_V_oneOf_rn l D dT _ wh9 ka9) ⟨callB_of 3 hts (gI gd_up gd_c q480) rfl rfl rfl (ht _ q1) (ht _ q478) hd_V_oneOf ⟨Nat.le_of_ble_eq_true rfl, Nat.le_of_ble_eq_true rfl⟩, ht _ q479⟩ (z_preS hK) rfl rfl hl.1 rfl (lv_room (Nat.le_of_ble_eq_true rfl)) d_V_at_62 ⟨Nat.zero_le _, Nat.zero_le _⟩) (fun v15 hv14 => ?_)
            have hv14 : v15 = (if wh9 = 0 then .ref ka9 else if wh9 = 1 then .null else .null) := hv14
            by_cases hi0 : wh9 = 0
            · rw [if_pos hi0] at hv14
              subst hv14
              refine z_callQ (va_runV (C := "ValueTrees") (As := [.int r, .ref ka9]) (rest := []) ⟨hx, hb, hml, hown, hts⟩ (c_V_keep_r l D dT _ Bq vv rg li ed tb tc RV (hC.up hN) hV r (kyOf e9) (lt_ tb (vty v4)) ka9 hwk9 (rq_up hN.2 hrk9) (by omega)) ⟨callB_of 2 hts (gI gd_up gd_c q264) rfl rfl rfl (ht _ q1) (ht _ q261) hd_V_keep ⟨Nat.le_of_ble_eq_true rfl, Nat.le_of_ble_eq_true rfl⟩, ht _ q263, ht _ qs6⟩ (z_preV hK (va_recv hK.1 (z_1 (hvv.grew hN.2)) (ci := 0) (q0 := 0) rfl rfl)) rfl rfl hl.1 rfl (lv_room (Nat.le_of_ble_eq_true rfl)) d_V_at_65 ⟨(Nat.le_of_ble_eq_true rfl), (Nat.le_of_ble_eq_true rfl)⟩) hS (fun _ h9 => Or.inl h9) (fun v17 H locs hv16 hz18 hf19 hS => ?_)
              obtain ⟨rfl, hC⟩ := hv16
              refine W.eq (g2 := F0 m 68 ls [.int ((kp RV r (some (kyOf e9))).1)]) rfl ?_
              exact z_iretQ hx hb hr hlocks d_V_at_68 hS (Nat.le_of_ble_eq_true rfl) (Nat.le_of_ble_eq_true rfl) (by rw [show o_at RV tr (nI ii) wh9 = (some (kyOf e9)) from (by unfold o_at; rw [hr5, ec4]; show (if 0 ≤ (nI ii) then (match nthE ch4 ((nI ii)).toNatClampNeg with | some e => if wh9 = 0 then some (kyOf e) else if wh9 = 1 then valOf e else none | none => none) else none) = _; rw [if_pos (nI_pos' (by omega)), nI_clamp (by omega), hn9]; dsimp only; rw [if_pos hi0])]; exact ⟨rfl, hC⟩)
            · rw [if_neg hi0] at hv14
              by_cases hi1 : wh9 = 1
              · rw [if_pos hi1] at hv14
                subst hv14
                refine z_callQ (va_runV (C := "ValueTrees") (As := [.int r, .null]) (rest := []) ⟨hx, hb, hml, hown, hts⟩ (c_V_keep_n l D dT _ Bq vv rg li ed tb tc RV (hC.up hN) hV r) ⟨callB_of 2 hts (gI gd_up gd_c q264) rfl rfl rfl (ht _ q1) (ht _ q261) hd_V_keep ⟨Nat.le_of_ble_eq_true rfl, Nat.le_of_ble_eq_true rfl⟩, ht _ q263, ht _ qs6⟩ (z_preV hK (va_recv hK.1 (z_1 (hvv.grew hN.2)) (ci := 0) (q0 := 0) rfl rfl)) rfl rfl hl.1 rfl (lv_room (Nat.le_of_ble_eq_true rfl)) d_V_at_65 ⟨(Nat.le_of_ble_eq_true rfl), (Nat.le_of_ble_eq_true rfl)⟩) hS (fun _ h9 => Or.inl h9) (fun v21 H locs hv20 hz22 hf23 hS => ?_)
                obtain ⟨rfl, hC⟩ := hv20
                refine W.eq (g2 := F0 m 68 ls [.int ((kp RV r none).1)]) rfl ?_
                exact z_iretQ hx hb hr hlocks d_V_at_68 hS (Nat.le_of_ble_eq_true rfl) (Nat.le_of_ble_eq_true rfl) (by rw [show o_at RV tr (nI ii) wh9 = none from (by unfold o_at; rw [hr5, ec4]; show (if 0 ≤ (nI ii) then (match nthE ch4 ((nI ii)).toNatClampNeg with | some e => if wh9 = 0 then some (kyOf e) else if wh9 = 1 then valOf e else none | none => none) else none) = _; rw [if_pos (nI_pos' (by omega)), nI_clamp (by omega), hn9]; dsimp only; rw [if_neg hi0, if_pos hi1]; exact hv9)]; exact ⟨rfl, hC⟩)
              · rw [if_neg hi1] at hv14
                subst hv14
                refine z_callQ (va_runV (C := "ValueTrees") (As := [.int r, .null]) (rest := []) ⟨hx, hb, hml, hown, hts⟩ (c_V_keep_n l D dT _ Bq vv rg li ed tb tc RV (hC.up hN) hV r) ⟨callB_of 2 hts (gI gd_up gd_c q264) rfl rfl rfl (ht _ q1) (ht _ q261) hd_V_keep ⟨Nat.le_of_ble_eq_true rfl, Nat.le_of_ble_eq_true rfl⟩, ht _ q263, ht _ qs6⟩ (z_preV hK (va_recv hK.1 (z_1 (hvv.grew hN.2)) (ci := 0) (q0 := 0) rfl rfl)) rfl rfl hl.1 rfl (lv_room (Nat.le_of_ble_eq_true rfl)) d_V_at_65 ⟨(Nat.le_of_ble_eq_true rfl), (Nat.le_of_ble_eq_true rfl)⟩) hS (fun _ h9 => Or.inl h9) (fun v25 H locs hv24 hz26 hf27 hS => ?_)
                obtain ⟨rfl, hC⟩ := hv24
                refine W.eq (g2 := F0 m 68 ls [.int ((kp RV r none).1)]) rfl ?_
                exact z_iretQ hx hb hr hlocks d_V_at_68 hS (Nat.le_of_ble_eq_true rfl) (Nat.le_of_ble_eq_true rfl) (by rw [show o_at RV tr (nI ii) wh9 = none from (by unfold o_at; rw [hr5, ec4]; show (if 0 ≤ (nI ii) then (match nthE ch4 ((nI ii)).toNatClampNeg with | some e => if wh9 = 0 then some (kyOf e) else if wh9 = 1 then valOf e else none | none => none) else none) = _; rw [if_pos (nI_pos' (by omega)), nI_clamp (by omega), hn9]; dsimp only; rw [if_neg hi0, if_neg hi1])]; exact ⟨rfl, hC⟩)
          · refine lv_aload_n hx hb d_V_at_38 rfl (lv_at hl 2 rfl) ?_
            refine lv_iload_n hx hb d_V_at_39 rfl (lv_at hl 3 rfl) ?_
            refine lv_iload hx hb d_V_at_40 (lv_at hl 6 rfl) ?_
            refine lv_aload hx hb d_V_at_42 (lv_at hl 0 rfl) ?_
            refine va_get (D := D) (ci := 7) (v := .ref e4) (C := "ValueTrees$Tree") (T := T_Tree) (N := 3) hx hb ht in_Tree hown hK.1 (z_1 (oa4.grew hN.2)) 0 rfl rfl 2 (by decide) (ht _ q358) (fun _ h9 => h9) rfl d_V_at_44 ?_
            refine lv_iload_n hx hb d_V_at_47 rfl (lv_at hl 5 rfl) ?_
            refine z_aald (v := .ref b9) hx hb hK (oe4.grew hN.2) rfl ii rfl (by omega) (by omega) (by rw [hfb9]; rfl) d_V_at_48 ?_
            refine va_get (D := D) (ci := 8) (v := .ref ka9) (C := "ValueTrees$Entry") (T := T_Entry) (N := 3) hx hb ht in_Entry hown hK.1 (z_1 (ob9.grew hN.2)) 0 rfl rfl 0 (by decide) (ht _ q426) (fun _ h9 => h9) rfl d_V_at_49 ?_
            refine lv_aload hx hb d_V_at_52 (lv_at hl 0 rfl) ?_
            refine va_get (D := D) (ci := 7) (v := .ref e4) (C := "ValueTrees$Tree") (T := T_Tree) (N := 3) hx hb ht in_Tree hown hK.1 (z_1 (oa4.grew hN.2)) 0 rfl rfl 2 (by decide) (ht _ q358) (fun _ h9 => h9) rfl d_V_at_54 ?_
            refine lv_iload_n hx hb d_V_at_57 rfl (lv_at hl 5 rfl) ?_
            refine z_aald (v := .ref b9) hx hb hK (oe4.grew hN.2) rfl ii rfl (by omega) (by omega) (by rw [hfb9]; rfl) d_V_at_58 ?_
            refine va_get (D := D) (ci := 8) (v := .ref c9) (C := "ValueTrees$Entry") (T := T_Entry) (N := 3) hx hb ht in_Entry hown hK.1 (z_1 (ob9.grew hN.2)) 0 rfl rfl 1 (by decide) (ht _ q428) (fun _ h9 => h9) rfl d_V_at_59 ?_
            refine z_callR (va_runS (As := [.int wh9, .ref ka9, .ref c9]) (rest := [.int r, .ref vv]) ⟨hx, hb, hml, hown, hts⟩ (c_V_oneOf_rr l D dT _ wh9 ka9 c9) ⟨callB_of 3 hts (gI gd_up gd_c q480) rfl rfl rfl (ht _ q1) (ht _ q478) hd_V_oneOf ⟨Nat.le_of_ble_eq_true rfl, Nat.le_of_ble_eq_true rfl⟩, ht _ q479⟩ (z_preS hK) rfl rfl hl.1 rfl (lv_room (Nat.le_of_ble_eq_true rfl)) d_V_at_62 ⟨Nat.zero_le _, Nat.zero_le _⟩) (fun v29 hv28 => ?_)
            have hv28 : v29 = (if wh9 = 0 then .ref ka9 else if wh9 = 1 then .ref c9 else .null) := hv28
            by_cases hi0 : wh9 = 0
            · rw [if_pos hi0] at hv28
              subst hv28
              refine z_callQ (va_runV (C := "ValueTrees") (As := [.int r, .ref ka9]) (rest := []) ⟨hx, hb, hml, hown, hts⟩ (c_V_keep_r l D dT _ Bq vv rg li ed tb tc RV (hC.up hN) hV r (kyOf e9) (lt_ tb (vty v4)) ka9 hwk9 (rq_up hN.2 hrk9) (by omega)) ⟨callB_of 2 hts (gI gd_up gd_c q264) rfl rfl rfl (ht _ q1) (ht _ q261) hd_V_keep ⟨Nat.le_of_ble_eq_true rfl, Nat.le_of_ble_eq_true rfl⟩, ht _ q263, ht _ qs6⟩ (z_preV hK (va_recv hK.1 (z_1 (hvv.grew hN.2)) (ci := 0) (q0 := 0) rfl rfl)) rfl rfl hl.1 rfl (lv_room (Nat.le_of_ble_eq_true rfl)) d_V_at_65 ⟨(Nat.le_of_ble_eq_true rfl), (Nat.le_of_ble_eq_true rfl)⟩) hS (fun _ h9 => Or.inl h9) (fun v31 H locs hv30 hz32 hf33 hS => ?_)
              obtain ⟨rfl, hC⟩ := hv30
              refine W.eq (g2 := F0 m 68 ls [.int ((kp RV r (some (kyOf e9))).1)]) rfl ?_
              exact z_iretQ hx hb hr hlocks d_V_at_68 hS (Nat.le_of_ble_eq_true rfl) (Nat.le_of_ble_eq_true rfl) (by rw [show o_at RV tr (nI ii) wh9 = (some (kyOf e9)) from (by unfold o_at; rw [hr5, ec4]; show (if 0 ≤ (nI ii) then (match nthE ch4 ((nI ii)).toNatClampNeg with | some e => if wh9 = 0 then some (kyOf e) else if wh9 = 1 then valOf e else none | none => none) else none) = _; rw [if_pos (nI_pos' (by omega)), nI_clamp (by omega), hn9]; dsimp only; rw [if_pos hi0])]; exact ⟨rfl, hC⟩)
            · rw [if_neg hi0] at hv28
              by_cases hi1 : wh9 = 1
              · rw [if_pos hi1] at hv28
                subst hv28
                have hxl9 : (cs x9).length ≤ (eb e9).length := by
                  cases e9 with
                  | add k v => cases hv9; rw [eb_add]; omega
                  | _ => cases hv9
                refine z_callQ (va_runV (C := "ValueTrees") (As := [.int r, .ref c9]) (rest := []) ⟨hx, hb, hml, hown, hts⟩ (c_V_keep_r l D dT _ Bq vv rg li ed tb tc RV (hC.up hN) hV r x9 (rt_ tb (vty v4)) c9 hwx9 (rq_up hN.2 hrx9) (by omega)) ⟨callB_of 2 hts (gI gd_up gd_c q264) rfl rfl rfl (ht _ q1) (ht _ q261) hd_V_keep ⟨Nat.le_of_ble_eq_true rfl, Nat.le_of_ble_eq_true rfl⟩, ht _ q263, ht _ qs6⟩ (z_preV hK (va_recv hK.1 (z_1 (hvv.grew hN.2)) (ci := 0) (q0 := 0) rfl rfl)) rfl rfl hl.1 rfl (lv_room (Nat.le_of_ble_eq_true rfl)) d_V_at_65 ⟨(Nat.le_of_ble_eq_true rfl), (Nat.le_of_ble_eq_true rfl)⟩) hS (fun _ h9 => Or.inl h9) (fun v35 H locs hv34 hz36 hf37 hS => ?_)
                obtain ⟨rfl, hC⟩ := hv34
                refine W.eq (g2 := F0 m 68 ls [.int ((kp RV r (some x9)).1)]) rfl ?_
                exact z_iretQ hx hb hr hlocks d_V_at_68 hS (Nat.le_of_ble_eq_true rfl) (Nat.le_of_ble_eq_true rfl) (by rw [show o_at RV tr (nI ii) wh9 = (some x9) from (by unfold o_at; rw [hr5, ec4]; show (if 0 ≤ (nI ii) then (match nthE ch4 ((nI ii)).toNatClampNeg with | some e => if wh9 = 0 then some (kyOf e) else if wh9 = 1 then valOf e else none | none => none) else none) = _; rw [if_pos (nI_pos' (by omega)), nI_clamp (by omega), hn9]; dsimp only; rw [if_neg hi0, if_pos hi1]; exact hv9)]; exact ⟨rfl, hC⟩)
              · rw [if_neg hi1] at hv28
                subst hv28
                refine z_callQ (va_runV (C := "ValueTrees") (As := [.int r, .null]) (rest := []) ⟨hx, hb, hml, hown, hts⟩ (c_V_keep_n l D dT _ Bq vv rg li ed tb tc RV (hC.up hN) hV r) ⟨callB_of 2 hts (gI gd_up gd_c q264) rfl rfl rfl (ht _ q1) (ht _ q261) hd_V_keep ⟨Nat.le_of_ble_eq_true rfl, Nat.le_of_ble_eq_true rfl⟩, ht _ q263, ht _ qs6⟩ (z_preV hK (va_recv hK.1 (z_1 (hvv.grew hN.2)) (ci := 0) (q0 := 0) rfl rfl)) rfl rfl hl.1 rfl (lv_room (Nat.le_of_ble_eq_true rfl)) d_V_at_65 ⟨(Nat.le_of_ble_eq_true rfl), (Nat.le_of_ble_eq_true rfl)⟩) hS (fun _ h9 => Or.inl h9) (fun v39 H locs hv38 hz40 hf41 hS => ?_)
                obtain ⟨rfl, hC⟩ := hv38
                refine W.eq (g2 := F0 m 68 ls [.int ((kp RV r none).1)]) rfl ?_
                exact z_iretQ hx hb hr hlocks d_V_at_68 hS (Nat.le_of_ble_eq_true rfl) (Nat.le_of_ble_eq_true rfl) (by rw [show o_at RV tr (nI ii) wh9 = none from (by unfold o_at; rw [hr5, ec4]; show (if 0 ≤ (nI ii) then (match nthE ch4 ((nI ii)).toNatClampNeg with | some e => if wh9 = 0 then some (kyOf e) else if wh9 = 1 then valOf e else none | none => none) else none) = _; rw [if_pos (nI_pos' (by omega)), nI_clamp (by omega), hn9]; dsimp only; rw [if_neg hi0, if_neg hi1])]; exact ⟨rfl, hC⟩)
        · have nc13 : ¬ ii < (clen ch4) := fun h9 => c13 ((nI_ltI (a := ii) (b := (clen ch4)) (by omega) (by omega)).mpr h9)
          refine lv_iconst (v := (-1)) hx hb d_V_at_36 (by decide) ?_
          exact z_iretQ hx hb hr hlocks d_V_at_37 hS (Nat.le_of_ble_eq_true rfl) (Nat.le_of_ble_eq_true rfl) (by rw [show o_at RV tr (nI ii) wh9 = none from (by unfold o_at; rw [hr5, ec4]; show (if 0 ≤ (nI ii) then (match nthE ch4 ((nI ii)).toNatClampNeg with | some e => if wh9 = 0 then some (kyOf e) else if wh9 = 1 then valOf e else none | none => none) else none) = _; rw [if_pos (nI_pos' (by omega)), nI_clamp (by omega)]; cases h9 : nthE ch4 ii with | none => rfl | some e => exact absurd (nth_some h9) (by omega))]; exact ⟨rfl, hC⟩)
    | add x4 y4 =>
      obtain ⟨b4, d4, oa4, hna4, hb4, hd4⟩ := rv_add.mp hq4
      refine lv_astore (lv' := [(6, .ref a3), (0, .ref vv), (1, .int r), (2, .int tr), (3, .int i), (4, .int wh9)]) hx hb d_V_at_5 hl (by decide) rfl (fun ls hl => ?_)
      refine lv_aload hx hb d_V_at_7 (lv_at hl 0 rfl) ?_
      refine va_instNo (C := "ValueTrees$Couple") hx hb hown (ht _ q349) (hK.2.1 _ nc_Couple_Tree) (z_recv hK (oa4.grew hN.2) rfl) d_V_at_9 ?_
      refine lv_if_eq (tgt := 36) hx hb d_V_at_12 (by decide) (fun _ => ?_) (fun c42 => absurd c42 (by decide))
      refine lv_iconst (v := (-1)) hx hb d_V_at_36 (by decide) ?_
      exact z_iretQ hx hb hr hlocks d_V_at_37 hS (Nat.le_of_ble_eq_true rfl) (Nat.le_of_ble_eq_true rfl) (by rw [show o_at RV tr i wh9 = none from (by unfold o_at; rw [hr5, ec4]; rfl)]; exact ⟨rfl, hC⟩)
    | sub a4 x4 =>
      obtain ⟨b4, oa4, hna4, hb4⟩ := rv_sub.mp hq4
      refine lv_astore (lv' := [(6, .ref a3), (0, .ref vv), (1, .int r), (2, .int tr), (3, .int i), (4, .int wh9)]) hx hb d_V_at_5 hl (by decide) rfl (fun ls hl => ?_)
      refine lv_aload hx hb d_V_at_7 (lv_at hl 0 rfl) ?_
      refine va_instNo (C := "ValueTrees$Choice") hx hb hown (ht _ q349) (hK.2.1 _ nc_Choice_Tree) (z_recv hK (oa4.grew hN.2) rfl) d_V_at_9 ?_
      refine lv_if_eq (tgt := 36) hx hb d_V_at_12 (by decide) (fun _ => ?_) (fun c43 => absurd c43 (by decide))
      refine lv_iconst (v := (-1)) hx hb d_V_at_36 (by decide) ?_
      exact z_iretQ hx hb hr hlocks d_V_at_37 hS (Nat.le_of_ble_eq_true rfl) (Nat.le_of_ble_eq_true rfl) (by rw [show o_at RV tr i wh9 = none from (by unfold o_at; rw [hr5, ec4]; rfl)]; exact ⟨rfl, hC⟩)
    | mul x4 y4 =>
      obtain ⟨b4, d4, oa4, hna4, hb4, hd4⟩ := rv_mul.mp hq4
      refine lv_astore (lv' := [(6, .ref a3), (0, .ref vv), (1, .int r), (2, .int tr), (3, .int i), (4, .int wh9)]) hx hb d_V_at_5 hl (by decide) rfl (fun ls hl => ?_)
      refine lv_aload hx hb d_V_at_7 (lv_at hl 0 rfl) ?_
      refine va_instNo (C := "ValueTrees$Chain") hx hb hown (ht _ q349) (hK.2.1 _ nc_Chain_Tree) (z_recv hK (oa4.grew hN.2) rfl) d_V_at_9 ?_
      refine lv_if_eq (tgt := 36) hx hb d_V_at_12 (by decide) (fun _ => ?_) (fun c44 => absurd c44 (by decide))
      refine lv_iconst (v := (-1)) hx hb d_V_at_36 (by decide) ?_
      exact z_iretQ hx hb hr hlocks d_V_at_37 hS (Nat.le_of_ble_eq_true rfl) (Nat.le_of_ble_eq_true rfl) (by rw [show o_at RV tr i wh9 = none from (by unfold o_at; rw [hr5, ec4]; rfl)]; exact ⟨rfl, hC⟩)
    | pow c8 t8 => exact absurd hc4.1 (by decide)
abbrev b_V_remove : ByteArray := prog_1_method_13_code
abbrev y_V_remove : MethodName := ⟨"ValueTrees", "remove", "(III)I"⟩
abbrev w_V_remove : List Cond := .code y_V_remove b_V_remove 7 (Option.some .int) :: gt
theorem hd_V_remove : (y_V_remove).cls ≠ "java/lang/invoke/MethodHandle" ∧ (y_V_remove).cls ≠ "java/lang/invoke/VarHandle" ∧ (parseMethodDescriptor (y_V_remove).desc).map (fun d => d.parameters.length) = some 3 := by decide +kernel
theorem d_V_remove_0 : decode b_V_remove 0 = .ok (.aload_n 0, 1) := by decide +kernel
theorem d_V_remove_1 : decode b_V_remove 1 = .ok (.iload_n 2, 1) := by decide +kernel
theorem d_V_remove_2 : decode b_V_remove 2 = .ok (.iload_n 3, 1) := by decide +kernel
theorem d_V_remove_3 : decode b_V_remove 3 = .ok (.invokevirtual 150, 3) := by decide +kernel
theorem d_V_remove_6 : decode b_V_remove 6 = .ok (.astore 4, 2) := by decide +kernel
theorem d_V_remove_8 : decode b_V_remove 8 = .ok (.aload_n 0, 1) := by decide +kernel
theorem d_V_remove_9 : decode b_V_remove 9 = .ok (.iload_n 3, 1) := by decide +kernel
theorem d_V_remove_10 : decode b_V_remove 10 = .ok (.invokevirtual 77, 3) := by decide +kernel
theorem d_V_remove_13 : decode b_V_remove 13 = .ok (.astore 5, 2) := by decide +kernel
theorem d_V_remove_15 : decode b_V_remove 15 = .ok (.aload 4, 2) := by decide +kernel
theorem d_V_remove_17 : decode b_V_remove 17 = .ok (.ifnull 8, 3) := by decide +kernel
theorem d_V_remove_20 : decode b_V_remove 20 = .ok (.aload 5, 2) := by decide +kernel
theorem d_V_remove_22 : decode b_V_remove 22 = .ok (.ifnonnull 5, 3) := by decide +kernel
theorem d_V_remove_25 : decode b_V_remove 25 = .ok (.iconst (-1), 1) := by decide +kernel
theorem d_V_remove_26 : decode b_V_remove 26 = .ok (.ireturn, 1) := by decide +kernel
theorem d_V_remove_27 : decode b_V_remove 27 = .ok (.aload 4, 2) := by decide +kernel
theorem d_V_remove_29 : decode b_V_remove 29 = .ok (.aload 5, 2) := by decide +kernel
theorem d_V_remove_31 : decode b_V_remove 31 = .ok (.invokestatic 165, 3) := by decide +kernel
theorem d_V_remove_34 : decode b_V_remove 34 = .ok (.istore 6, 2) := by decide +kernel
theorem d_V_remove_36 : decode b_V_remove 36 = .ok (.aload_n 0, 1) := by decide +kernel
theorem d_V_remove_37 : decode b_V_remove 37 = .ok (.iload_n 1, 1) := by decide +kernel
theorem d_V_remove_38 : decode b_V_remove 38 = .ok (.aload 4, 2) := by decide +kernel
theorem d_V_remove_40 : decode b_V_remove 40 = .ok (.iload 6, 2) := by decide +kernel
theorem d_V_remove_42 : decode b_V_remove 42 = .ok (.aload 5, 2) := by decide +kernel
theorem d_V_remove_44 : decode b_V_remove 44 = .ok (.invokestatic 169, 3) := by decide +kernel
theorem d_V_remove_47 : decode b_V_remove 47 = .ok (.ifCond .eq 13, 3) := by decide +kernel
theorem d_V_remove_50 : decode b_V_remove 50 = .ok (.aload 4, 2) := by decide +kernel
theorem d_V_remove_52 : decode b_V_remove 52 = .ok (.iload 6, 2) := by decide +kernel
theorem d_V_remove_54 : decode b_V_remove 54 = .ok (.invokestatic 173, 3) := by decide +kernel
theorem d_V_remove_57 : decode b_V_remove 57 = .ok (.goto 5, 3) := by decide +kernel
theorem d_V_remove_60 : decode b_V_remove 60 = .ok (.aload 4, 2) := by decide +kernel
theorem d_V_remove_62 : decode b_V_remove 62 = .ok (.invokevirtual 73, 3) := by decide +kernel
theorem d_V_remove_65 : decode b_V_remove 65 = .ok (.ireturn, 1) := by decide +kernel
set_option maxHeartbeats 4000000 in
set_option maxRecDepth 100000 in
theorem p_V_remove (l : Launch) (D : va_G) (dT : Nat → ClassId) (H : Heap) (Bq : Nat → Prop) (vv rg li ed : Nat) (tb : Nat → TR) (tc : Nat) (RV : Nat → Option VT) (hC : cI D dT Bq vv rg li ed tb tc RV H) (hV : vOK tb tc RV) (r tr ky : Int32) : Met l y_V_remove w_V_remove ({ frames := 46, cells := 2, slots := 90, locals := 1772 }) (z_P D dT [.ref vv, .int r, .int tr, .int ky] H) (z_Q (fun q => q = rg ∨ H.size ≤ q) (fun v H1 => v = some (.int (kp RV r (o_remove tb RV tr ky)).1) ∧ cI D dT Bq vv rg li ed tb tc (kp RV r (o_remove tb RV tr ky)).2 H1)) 2 90 (fun q => q = rg ∨ H.size ≤ q) := by
  obtain ⟨⟨hBs, hBr, hBl, hBe, hBv, hrl, hre, hle⟩, hvv, hCR, hCT⟩ := id hC
  have hO := hV.1
  have htc := hO.1
  have htc10 := hO.2.1
  refine Met.ofW (cc := b_V_remove) (maxL := 7) (ret := (Option.some .int)) (by decide) rfl ?_
  intro p e s m args below meth c s₁ B hml hv
  obtain ⟨rfl, rfl, hK⟩ := hv
  have hx := B.exec
  have hb := B.bytes
  have hr := B.returns
  have hts := atoms_spec (ws := w_V_remove) B.pre
  have ht : ∀ w9 ∈ gt, w9.before [.ref vv, .int r, .int tr, .int ky].toArray s = true := fun w9 h => hts w9 (List.mem_cons_of_mem _ h)
  have hown : s.vm.findClass "ValueTrees" = some m.cls := findClass_of_methodNamed B.named
  have hlocks := B.notSynchronized
  have hS : va_S (fun q => q = rg ∨ s.heap.size ≤ q) s.heap s.heap [] := va_S.rf
  have hl := lv_entry ([.ref vv, .int r, .int tr, .int ky]) (n := 7) (Nat.le_of_ble_eq_true rfl)
  rw [lg_entry_eq]
  generalize (lg_sl ([.ref vv, .int r, .int tr, .int ky]) ++ List.replicate (7 - (lg_sl ([.ref vv, .int r, .int tr, .int ky])).length) Slot.unset).toArray = ls at hl ⊢
  have hl : lv_has ls 7 [(0, .ref vv), (1, .int r), (2, .int tr), (3, .int ky)] := hl
  have hN : nU s.heap s.heap := nU.rf
  refine lv_aload_n hx hb d_V_remove_0 rfl (lv_at hl 0 rfl) ?_
  refine lv_iload_n hx hb d_V_remove_1 rfl (lv_at hl 2 rfl) ?_
  refine lv_iload_n hx hb d_V_remove_2 rfl (lv_at hl 3 rfl) ?_
  refine z_callR (va_runV (C := "ValueTrees") (As := [.int tr, .int ky]) (rest := []) ⟨hx, hb, hml, hown, hts⟩ (c_V_treeFor l D dT _ Bq vv rg li ed tb tc RV (hC.up hN) hV tr ky) ⟨callB_of 2 hts (gI gd_up gd_c q419) rfl rfl rfl (ht _ q1) (ht _ q416) hd_V_treeFor ⟨Nat.le_of_ble_eq_true rfl, Nat.le_of_ble_eq_true rfl⟩, ht _ q418, ht _ qs12⟩ (z_preV hK (va_recv hK.1 (z_1 (hvv.grew hN.2)) (ci := 0) (q0 := 0) rfl rfl)) rfl rfl hl.1 rfl (lv_room (Nat.le_of_ble_eq_true rfl)) d_V_remove_3 ⟨Nat.zero_le _, Nat.zero_le _⟩) (fun v2 hv1 => ?_)
  rcases hv1 with ⟨rfl, haf⟩ | ⟨at9, ch, tt, kv, rfl, hat, hrt, hrk, hra⟩
  · refine lv_astoreN (lv' := [(4, .null), (0, .ref vv), (1, .int r), (2, .int tr), (3, .int ky)]) hx hb d_V_remove_6 hl (by decide) rfl (fun ls hl => ?_)
    refine lv_aload_n hx hb d_V_remove_8 rfl (lv_at hl 1 rfl) ?_
    refine lv_iload_n hx hb d_V_remove_9 rfl (lv_at hl 4 rfl) ?_
    refine z_callR (va_runV (C := "ValueTrees") (As := [.int ky]) (rest := []) ⟨hx, hb, hml, hown, hts⟩ (c_V_held l D dT _ Bq vv rg li ed tb tc RV (hC.up hN) hV ky) ⟨callB_of 1 hts (gI gd_up gd_c q275) rfl rfl rfl (ht _ q1) (ht _ q272) hd_V_held ⟨Nat.le_of_ble_eq_true rfl, Nat.le_of_ble_eq_true rfl⟩, ht _ q274, ht _ qs7⟩ (z_preV hK (va_recv hK.1 (z_1 (hvv.grew hN.2)) (ci := 0) (q0 := 0) rfl rfl)) rfl rfl hl.1 rfl (lv_room (Nat.le_of_ble_eq_true rfl)) d_V_remove_10 ⟨Nat.zero_le _, Nat.zero_le _⟩) (fun v4 hv3 => ?_)
    rcases hv3 with ⟨rfl, hr7⟩ | ⟨a5, v6, rfl, hr7, hq6⟩
    · refine lv_astoreN (lv' := [(5, .null), (4, .null), (0, .ref vv), (1, .int r), (2, .int tr), (3, .int ky)]) hx hb d_V_remove_13 hl (by decide) rfl (fun ls hl => ?_)
      refine lv_aloadN hx hb d_V_remove_15 (lv_at hl 1 rfl) ?_
      refine lv_ifnullN (tgt := 25) hx hb d_V_remove_17 (by decide) ?_
      refine lv_iconst (v := (-1)) hx hb d_V_remove_25 (by decide) ?_
      exact z_iretQ hx hb hr hlocks d_V_remove_26 hS (Nat.le_of_ble_eq_true rfl) (Nat.le_of_ble_eq_true rfl) (by rw [show o_remove tb RV tr ky = none from (by unfold o_remove; rw [if_neg (by rw [haf]; decide)])]; exact ⟨rfl, hC⟩)
    · obtain ⟨ht6, hw6, hl6⟩ := vOK_get hV hr7
      obtain ⟨hh6, hnb6⟩ := rv_hd hw6 hq6
      refine lv_astore (lv' := [(5, .ref a5), (4, .null), (0, .ref vv), (1, .int r), (2, .int tr), (3, .int ky)]) hx hb d_V_remove_13 hl (by decide) rfl (fun ls hl => ?_)
      refine lv_aloadN hx hb d_V_remove_15 (lv_at hl 1 rfl) ?_
      refine lv_ifnullN (tgt := 25) hx hb d_V_remove_17 (by decide) ?_
      refine lv_iconst (v := (-1)) hx hb d_V_remove_25 (by decide) ?_
      exact z_iretQ hx hb hr hlocks d_V_remove_26 hS (Nat.le_of_ble_eq_true rfl) (Nat.le_of_ble_eq_true rfl) (by rw [show o_remove tb RV tr ky = none from (by unfold o_remove; rw [if_neg (by rw [haf]; decide)])]; exact ⟨rfl, hC⟩)
  · obtain ⟨htl, hwd, hwc, hwk, hlc, hlk⟩ := tf_facts hV hat hrt hrk
    obtain ⟨ea, fe, oa, hna, oe, hne, hch⟩ := rv_neg.mp hra
    have hcle := clen_le hwc
    have hlt := (tl_some hO htl (by omega)).2.1
    refine lv_astore (lv' := [(4, .ref at9), (0, .ref vv), (1, .int r), (2, .int tr), (3, .int ky)]) hx hb d_V_remove_6 hl (by decide) rfl (fun ls hl => ?_)
    refine lv_aload_n hx hb d_V_remove_8 rfl (lv_at hl 1 rfl) ?_
    refine lv_iload_n hx hb d_V_remove_9 rfl (lv_at hl 4 rfl) ?_
    refine z_callR (va_runV (C := "ValueTrees") (As := [.int ky]) (rest := []) ⟨hx, hb, hml, hown, hts⟩ (c_V_held l D dT _ Bq vv rg li ed tb tc RV (hC.up hN) hV ky) ⟨callB_of 1 hts (gI gd_up gd_c q275) rfl rfl rfl (ht _ q1) (ht _ q272) hd_V_held ⟨Nat.le_of_ble_eq_true rfl, Nat.le_of_ble_eq_true rfl⟩, ht _ q274, ht _ qs7⟩ (z_preV hK (va_recv hK.1 (z_1 (hvv.grew hN.2)) (ci := 0) (q0 := 0) rfl rfl)) rfl rfl hl.1 rfl (lv_room (Nat.le_of_ble_eq_true rfl)) d_V_remove_10 ⟨Nat.zero_le _, Nat.zero_le _⟩) (fun v9 hv8 => ?_)
    rcases hv8 with ⟨rfl, hr12⟩ | ⟨a10, v11, rfl, hr12, hq11⟩
    · rw [hrk] at hr12; cases hr12
    · have ev11 : kv = v11 := Option.some.inj (hrk.symm.trans hr12)
      subst ev11
      obtain ⟨ht11, hw11, hl11⟩ := vOK_get hV hr12
      obtain ⟨hh11, hnb11⟩ := rv_hd hw11 hq11
      refine lv_astore (lv' := [(5, .ref a10), (4, .ref at9), (0, .ref vv), (1, .int r), (2, .int tr), (3, .int ky)]) hx hb d_V_remove_13 hl (by decide) rfl (fun ls hl => ?_)
      refine lv_aload hx hb d_V_remove_15 (lv_at hl 1 rfl) ?_
      refine lv_ifnull hx hb d_V_remove_17 ?_
      refine lv_aload hx hb d_V_remove_20 (lv_at hl 0 rfl) ?_
      refine lv_ifnonnull (tgt := 27) hx hb d_V_remove_22 (by decide) ?_
      refine lv_aload hx hb d_V_remove_27 (lv_at hl 1 rfl) ?_
      refine lv_aload hx hb d_V_remove_29 (lv_at hl 0 rfl) ?_
      refine z_callR (va_runS (As := [.ref at9, .ref a10]) (rest := []) ⟨hx, hb, hml, hown, hts⟩ (c_V_placeOf l D dT _ Bq tb tc hO at9 a10 ch kv tt htl hwd hwc hwk (rq_up hN.2 hra) (rq_up hN.2 hq11) (by omega)) ⟨callB_of 2 hts (gI gd_up gd_c q443) rfl rfl rfl (ht _ q1) (ht _ q441) hd_V_placeOf ⟨Nat.le_of_ble_eq_true rfl, Nat.le_of_ble_eq_true rfl⟩, ht _ q442⟩ (z_preS hK) rfl rfl hl.1 rfl (lv_room (Nat.le_of_ble_eq_true rfl)) d_V_remove_31 ⟨Nat.zero_le _, Nat.zero_le _⟩) (fun v14 hv13 => ?_)
      subst hv13
      refine lv_istore (lv' := [(6, .int (nI (clen (prc ch kv)))), (5, .ref a10), (4, .ref at9), (0, .ref vv), (1, .int r), (2, .int tr), (3, .int ky)]) hx hb d_V_remove_34 hl (by decide) rfl (fun ls hl => ?_)
      refine lv_aload_n hx hb d_V_remove_36 rfl (lv_at hl 3 rfl) ?_
      refine lv_iload_n hx hb d_V_remove_37 rfl (lv_at hl 4 rfl) ?_
      refine lv_aload hx hb d_V_remove_38 (lv_at hl 2 rfl) ?_
      refine lv_iload hx hb d_V_remove_40 (lv_at hl 0 rfl) ?_
      refine lv_aload hx hb d_V_remove_42 (lv_at hl 1 rfl) ?_
      refine z_callR (va_runS (As := [.ref at9, .int (nI (clen (prc ch kv))), .ref a10]) (rest := [.int r, .ref vv]) ⟨hx, hb, hml, hown, hts⟩ (c_V_isAt l D dT _ Bq tb tc hO at9 a10 ch kv tt htl hwd hwc hwk (rq_up hN.2 hra) (rq_up hN.2 hq11) (by omega)) ⟨callB_of 3 hts (gI gd_up gd_c q466) rfl rfl rfl (ht _ q1) (ht _ q464) hd_V_isAt ⟨Nat.le_of_ble_eq_true rfl, Nat.le_of_ble_eq_true rfl⟩, ht _ q465⟩ (z_preS hK) rfl rfl hl.1 rfl (lv_room (Nat.le_of_ble_eq_true rfl)) d_V_remove_44 ⟨Nat.zero_le _, Nat.zero_le _⟩) (fun v16 hv15 => ?_)
      have hv15 : v16 = .int (if thr (skp ch kv) kv = true then 1 else 0) := hv15
      rcases Classical.em (thr (skp ch kv) kv = true) with hth | hth
      · rw [if_pos hth] at hv15
        subst hv15
        refine lv_if_eq (tgt := 60) hx hb d_V_remove_47 (by decide) (fun c18 => absurd c18 (by decide)) (fun _ => ?_)
        refine lv_aload hx hb d_V_remove_50 (lv_at hl 2 rfl) ?_
        refine lv_iload hx hb d_V_remove_52 (lv_at hl 0 rfl) ?_
        refine z_callQ (va_runS (As := [.ref at9, .int (nI (clen (prc ch kv)))]) (rest := [.int r, .ref vv]) ⟨hx, hb, hml, hown, hts⟩ (c_V_withoutEntry l D dT _ Bq tb tc hO at9 a10 ch kv tt htl hwd hwc hwk (rq_up hN.2 hra) (rq_up hN.2 hq11) (by omega) (fun q9 h9 => Nat.lt_of_lt_of_le (hBs q9 h9) hN.1) hth) ⟨callB_of 2 hts (gI gd_up gd_c q469) rfl rfl rfl (ht _ q1) (ht _ q467) hd_V_withoutEntry ⟨Nat.le_of_ble_eq_true rfl, Nat.le_of_ble_eq_true rfl⟩, ht _ q468⟩ (z_preS hK) rfl rfl hl.1 rfl (lv_room (Nat.le_of_ble_eq_true rfl)) d_V_remove_54 ⟨(Nat.le_of_ble_eq_true rfl), (Nat.le_of_ble_eq_true rfl)⟩) hS (fun _ h9 => Or.inr (Nat.le_trans hN.1 h9)) (fun v20 Hb locs hv19 hz21 hf22 hS => ?_)
        obtain ⟨ad23, rfl, hgad23, hrvad23⟩ := hv19
        have hN := hN.call hz21 hf22 (fun x hx h9 => absurd (Nat.lt_of_lt_of_le hx hN.1) (Nat.not_lt.mpr h9))
        refine W.eq (g2 := F0 m 57 ls [.ref ad23, .int r, .ref vv]) rfl ?_
        refine lv_goto (tgt := 62) hx hb d_V_remove_57 (by decide) ?_
        have hrd := rem_done (k := kv) hwd hwc
        have hlen : (cs (remE (.pow (.neg ch) tt) kv)).length ≤ 160 := by
          rw [hrd.2]
          simp only [List.length_cons, List.length_append, size4_len, List.length_nil]
          have h9 := cs_split kv hwc
          have h8 := rst_len ch kv
          have h7 : (cs ch).length = (cs (prc ch kv)).length + (cs (skp ch kv)).length := by rw [h9, List.length_append]
          omega
        refine z_callQ (va_runV (C := "ValueTrees") (As := [.int r, .ref ad23]) (rest := []) ⟨hx, hb, hml, hown, hts⟩ (c_V_keep_r l D dT _ Bq vv rg li ed tb tc RV (hC.up hN) hV r (remE (.pow (.neg ch) tt) kv) tt ad23 hrd.1 hrvad23 (by omega)) ⟨callB_of 2 hts (gI gd_up gd_c q264) rfl rfl rfl (ht _ q1) (ht _ q261) hd_V_keep ⟨Nat.le_of_ble_eq_true rfl, Nat.le_of_ble_eq_true rfl⟩, ht _ q263, ht _ qs6⟩ (z_preV hK (va_recv hK.1 (z_1 (hvv.grew hN.2)) (ci := 0) (q0 := 0) rfl rfl)) rfl rfl hl.1 rfl (lv_room (Nat.le_of_ble_eq_true rfl)) d_V_remove_62 ⟨(Nat.le_of_ble_eq_true rfl), (Nat.le_of_ble_eq_true rfl)⟩) hS (fun _ h9 => Or.inl h9) (fun v25 H locs hv24 hz26 hf27 hS => ?_)
        obtain ⟨rfl, hC⟩ := hv24
        refine W.eq (g2 := F0 m 65 ls [.int ((kp RV r (some (remE (.pow (.neg ch) tt) kv))).1)]) rfl ?_
        exact z_iretQ hx hb hr hlocks d_V_remove_65 hS (Nat.le_of_ble_eq_true rfl) (Nat.le_of_ble_eq_true rfl) (by rw [show o_remove tb RV tr ky = some (remE (.pow (.neg ch) tt) kv) from (by unfold o_remove; rw [if_pos hat, hrt, hrk])]; exact ⟨rfl, hC⟩)
      · rw [if_neg hth] at hv15
        subst hv15
        refine lv_if_eq (tgt := 60) hx hb d_V_remove_47 (by decide) (fun _ => ?_) (fun c28 => absurd c28 (by decide))
        refine lv_aload hx hb d_V_remove_60 (lv_at hl 2 rfl) ?_
        have hrd := rem_done (k := kv) hwd hwc
        have hlen : (cs (remE (.pow (.neg ch) tt) kv)).length ≤ 160 := by
          rw [hrd.2]
          simp only [List.length_cons, List.length_append, size4_len, List.length_nil]
          have h9 := cs_split kv hwc
          have h8 := rst_len ch kv
          have h7 : (cs ch).length = (cs (prc ch kv)).length + (cs (skp ch kv)).length := by rw [h9, List.length_append]
          omega
        have hrx : rv D dT Bq s.heap (remE (.pow (.neg ch) tt) kv) at9 := by
          show rv D dT Bq s.heap (.pow (.neg (app (prc ch kv) (rst ch kv))) tt) at9
          rw [rst_f hth, app_back]; exact hra
        refine z_callQ (va_runV (C := "ValueTrees") (As := [.int r, .ref at9]) (rest := []) ⟨hx, hb, hml, hown, hts⟩ (c_V_keep_r l D dT _ Bq vv rg li ed tb tc RV (hC.up hN) hV r (remE (.pow (.neg ch) tt) kv) tt at9 hrd.1 (rq_up hN.2 hrx) (by omega)) ⟨callB_of 2 hts (gI gd_up gd_c q264) rfl rfl rfl (ht _ q1) (ht _ q261) hd_V_keep ⟨Nat.le_of_ble_eq_true rfl, Nat.le_of_ble_eq_true rfl⟩, ht _ q263, ht _ qs6⟩ (z_preV hK (va_recv hK.1 (z_1 (hvv.grew hN.2)) (ci := 0) (q0 := 0) rfl rfl)) rfl rfl hl.1 rfl (lv_room (Nat.le_of_ble_eq_true rfl)) d_V_remove_62 ⟨(Nat.le_of_ble_eq_true rfl), (Nat.le_of_ble_eq_true rfl)⟩) hS (fun _ h9 => Or.inl h9) (fun v30 H locs hv29 hz31 hf32 hS => ?_)
        obtain ⟨rfl, hC⟩ := hv29
        refine W.eq (g2 := F0 m 65 ls [.int ((kp RV r (some (remE (.pow (.neg ch) tt) kv))).1)]) rfl ?_
        exact z_iretQ hx hb hr hlocks d_V_remove_65 hS (Nat.le_of_ble_eq_true rfl) (Nat.le_of_ble_eq_true rfl) (by rw [show o_remove tb RV tr ky = some (remE (.pow (.neg ch) tt) kv) from (by unfold o_remove; rw [if_pos hat, hrt, hrk])]; exact ⟨rfl, hC⟩)
abbrev b_V_put : ByteArray := prog_1_method_12_code
abbrev y_V_put : MethodName := ⟨"ValueTrees", "put", "(IIII)I"⟩
abbrev w_V_put : List Cond := .code y_V_put b_V_put 8 (Option.some .int) :: gt
theorem hd_V_put : (y_V_put).cls ≠ "java/lang/invoke/MethodHandle" ∧ (y_V_put).cls ≠ "java/lang/invoke/VarHandle" ∧ (parseMethodDescriptor (y_V_put).desc).map (fun d => d.parameters.length) = some 4 := by decide +kernel
theorem d_V_put_0 : decode b_V_put 0 = .ok (.aload_n 0, 1) := by decide +kernel
theorem d_V_put_1 : decode b_V_put 1 = .ok (.iload_n 2, 1) := by decide +kernel
theorem d_V_put_2 : decode b_V_put 2 = .ok (.iload_n 3, 1) := by decide +kernel
theorem d_V_put_3 : decode b_V_put 3 = .ok (.invokevirtual 150, 3) := by decide +kernel
theorem d_V_put_6 : decode b_V_put 6 = .ok (.astore 5, 2) := by decide +kernel
theorem d_V_put_8 : decode b_V_put 8 = .ok (.aload_n 0, 1) := by decide +kernel
theorem d_V_put_9 : decode b_V_put 9 = .ok (.iload_n 3, 1) := by decide +kernel
theorem d_V_put_10 : decode b_V_put 10 = .ok (.invokevirtual 77, 3) := by decide +kernel
theorem d_V_put_13 : decode b_V_put 13 = .ok (.astore 6, 2) := by decide +kernel
theorem d_V_put_15 : decode b_V_put 15 = .ok (.aload 5, 2) := by decide +kernel
theorem d_V_put_17 : decode b_V_put 17 = .ok (.ifnull 8, 3) := by decide +kernel
theorem d_V_put_20 : decode b_V_put 20 = .ok (.aload 6, 2) := by decide +kernel
theorem d_V_put_22 : decode b_V_put 22 = .ok (.ifnonnull 5, 3) := by decide +kernel
theorem d_V_put_25 : decode b_V_put 25 = .ok (.iconst (-1), 1) := by decide +kernel
theorem d_V_put_26 : decode b_V_put 26 = .ok (.ireturn, 1) := by decide +kernel
theorem d_V_put_27 : decode b_V_put 27 = .ok (.aload_n 0, 1) := by decide +kernel
theorem d_V_put_28 : decode b_V_put 28 = .ok (.aload 5, 2) := by decide +kernel
theorem d_V_put_30 : decode b_V_put 30 = .ok (.getfield 154, 3) := by decide +kernel
theorem d_V_put_33 : decode b_V_put 33 = .ok (.invokevirtual 109, 3) := by decide +kernel
theorem d_V_put_36 : decode b_V_put 36 = .ok (.bipush 12, 2) := by decide +kernel
theorem d_V_put_38 : decode b_V_put 38 = .ok (.if_icmp .ne 24, 3) := by decide +kernel
theorem d_V_put_41 : decode b_V_put 41 = .ok (.aload_n 0, 1) := by decide +kernel
theorem d_V_put_42 : decode b_V_put 42 = .ok (.iload_n 1, 1) := by decide +kernel
theorem d_V_put_43 : decode b_V_put 43 = .ok (.aload 5, 2) := by decide +kernel
theorem d_V_put_45 : decode b_V_put 45 = .ok (.new 120, 3) := by decide +kernel
theorem d_V_put_48 : decode b_V_put 48 = .ok (.dup, 1) := by decide +kernel
theorem d_V_put_49 : decode b_V_put 49 = .ok (.aload 6, 2) := by decide +kernel
theorem d_V_put_51 : decode b_V_put 51 = .ok (.aconst_null, 1) := by decide +kernel
theorem d_V_put_52 : decode b_V_put 52 = .ok (.invokespecial 155, 3) := by decide +kernel
theorem d_V_put_55 : decode b_V_put 55 = .ok (.invokestatic 158, 3) := by decide +kernel
theorem d_V_put_58 : decode b_V_put 58 = .ok (.invokevirtual 73, 3) := by decide +kernel
theorem d_V_put_61 : decode b_V_put 61 = .ok (.ireturn, 1) := by decide +kernel
theorem d_V_put_62 : decode b_V_put 62 = .ok (.aload_n 0, 1) := by decide +kernel
theorem d_V_put_63 : decode b_V_put 63 = .ok (.iload 4, 2) := by decide +kernel
theorem d_V_put_65 : decode b_V_put 65 = .ok (.invokevirtual 77, 3) := by decide +kernel
theorem d_V_put_68 : decode b_V_put 68 = .ok (.astore 7, 2) := by decide +kernel
theorem d_V_put_70 : decode b_V_put 70 = .ok (.aload 7, 2) := by decide +kernel
theorem d_V_put_72 : decode b_V_put 72 = .ok (.ifnull 20, 3) := by decide +kernel
theorem d_V_put_75 : decode b_V_put 75 = .ok (.aload 7, 2) := by decide +kernel
theorem d_V_put_77 : decode b_V_put 77 = .ok (.getfield 125, 3) := by decide +kernel
theorem d_V_put_80 : decode b_V_put 80 = .ok (.aload_n 0, 1) := by decide +kernel
theorem d_V_put_81 : decode b_V_put 81 = .ok (.aload 5, 2) := by decide +kernel
theorem d_V_put_83 : decode b_V_put 83 = .ok (.getfield 154, 3) := by decide +kernel
theorem d_V_put_86 : decode b_V_put 86 = .ok (.invokevirtual 162, 3) := by decide +kernel
theorem d_V_put_89 : decode b_V_put 89 = .ok (.if_icmp .eq 5, 3) := by decide +kernel
theorem d_V_put_92 : decode b_V_put 92 = .ok (.iconst (-1), 1) := by decide +kernel
theorem d_V_put_93 : decode b_V_put 93 = .ok (.ireturn, 1) := by decide +kernel
theorem d_V_put_94 : decode b_V_put 94 = .ok (.aload_n 0, 1) := by decide +kernel
theorem d_V_put_95 : decode b_V_put 95 = .ok (.iload_n 1, 1) := by decide +kernel
theorem d_V_put_96 : decode b_V_put 96 = .ok (.aload 5, 2) := by decide +kernel
theorem d_V_put_98 : decode b_V_put 98 = .ok (.new 120, 3) := by decide +kernel
theorem d_V_put_101 : decode b_V_put 101 = .ok (.dup, 1) := by decide +kernel
theorem d_V_put_102 : decode b_V_put 102 = .ok (.aload 6, 2) := by decide +kernel
theorem d_V_put_104 : decode b_V_put 104 = .ok (.aload 7, 2) := by decide +kernel
theorem d_V_put_106 : decode b_V_put 106 = .ok (.invokespecial 155, 3) := by decide +kernel
theorem d_V_put_109 : decode b_V_put 109 = .ok (.invokestatic 158, 3) := by decide +kernel
theorem d_V_put_112 : decode b_V_put 112 = .ok (.invokevirtual 73, 3) := by decide +kernel
theorem d_V_put_115 : decode b_V_put 115 = .ok (.ireturn, 1) := by decide +kernel
set_option maxHeartbeats 4000000 in
set_option maxRecDepth 100000 in
theorem p_V_put (l : Launch) (D : va_G) (dT : Nat → ClassId) (H : Heap) (Bq : Nat → Prop) (vv rg li ed : Nat) (tb : Nat → TR) (tc : Nat) (RV : Nat → Option VT) (hC : cI D dT Bq vv rg li ed tb tc RV H) (hV : vOK tb tc RV) (r tr ky x : Int32) : Met l y_V_put w_V_put ({ frames := 47, cells := 5, slots := 203, locals := 1797 }) (z_P D dT [.ref vv, .int r, .int tr, .int ky, .int x] H) (z_Q (fun q => q = rg ∨ H.size ≤ q) (fun v H1 => v = some (.int (kp RV r (o_put tb RV tr ky x)).1) ∧ cI D dT Bq vv rg li ed tb tc (kp RV r (o_put tb RV tr ky x)).2 H1)) 5 203 (fun q => q = rg ∨ H.size ≤ q) := by
  obtain ⟨⟨hBs, hBr, hBl, hBe, hBv, hrl, hre, hle⟩, hvv, hCR, hCT⟩ := id hC
  have hO := hV.1
  have htc := hO.1
  have htc10 := hO.2.1
  refine Met.ofW (cc := b_V_put) (maxL := 8) (ret := (Option.some .int)) (by decide) rfl ?_
  intro p e s m args below meth c s₁ B hml hv
  obtain ⟨rfl, rfl, hK⟩ := hv
  have hx := B.exec
  have hb := B.bytes
  have hr := B.returns
  have hts := atoms_spec (ws := w_V_put) B.pre
  have ht : ∀ w9 ∈ gt, w9.before [.ref vv, .int r, .int tr, .int ky, .int x].toArray s = true := fun w9 h => hts w9 (List.mem_cons_of_mem _ h)
  have hown : s.vm.findClass "ValueTrees" = some m.cls := findClass_of_methodNamed B.named
  have hlocks := B.notSynchronized
  have hS : va_S (fun q => q = rg ∨ s.heap.size ≤ q) s.heap s.heap [] := va_S.rf
  have hl := lv_entry ([.ref vv, .int r, .int tr, .int ky, .int x]) (n := 8) (Nat.le_of_ble_eq_true rfl)
  rw [lg_entry_eq]
  generalize (lg_sl ([.ref vv, .int r, .int tr, .int ky, .int x]) ++ List.replicate (8 - (lg_sl ([.ref vv, .int r, .int tr, .int ky, .int x])).length) Slot.unset).toArray = ls at hl ⊢
  have hl : lv_has ls 8 [(0, .ref vv), (1, .int r), (2, .int tr), (3, .int ky), (4, .int x)] := hl
  have hN : nU s.heap s.heap := nU.rf
  refine lv_aload_n hx hb d_V_put_0 rfl (lv_at hl 0 rfl) ?_
  refine lv_iload_n hx hb d_V_put_1 rfl (lv_at hl 2 rfl) ?_
  refine lv_iload_n hx hb d_V_put_2 rfl (lv_at hl 3 rfl) ?_
  refine z_callR (va_runV (C := "ValueTrees") (As := [.int tr, .int ky]) (rest := []) ⟨hx, hb, hml, hown, hts⟩ (c_V_treeFor l D dT _ Bq vv rg li ed tb tc RV (hC.up hN) hV tr ky) ⟨callB_of 2 hts (gI gd_up gd_c q419) rfl rfl rfl (ht _ q1) (ht _ q416) hd_V_treeFor ⟨Nat.le_of_ble_eq_true rfl, Nat.le_of_ble_eq_true rfl⟩, ht _ q418, ht _ qs12⟩ (z_preV hK (va_recv hK.1 (z_1 (hvv.grew hN.2)) (ci := 0) (q0 := 0) rfl rfl)) rfl rfl hl.1 rfl (lv_room (Nat.le_of_ble_eq_true rfl)) d_V_put_3 ⟨Nat.zero_le _, Nat.zero_le _⟩) (fun v2 hv1 => ?_)
  rcases hv1 with ⟨rfl, haf⟩ | ⟨at9, ch, tt, kv, rfl, hat, hrt, hrk, hra⟩
  · refine lv_astoreN (lv' := [(5, .null), (0, .ref vv), (1, .int r), (2, .int tr), (3, .int ky), (4, .int x)]) hx hb d_V_put_6 hl (by decide) rfl (fun ls hl => ?_)
    refine lv_aload_n hx hb d_V_put_8 rfl (lv_at hl 1 rfl) ?_
    refine lv_iload_n hx hb d_V_put_9 rfl (lv_at hl 4 rfl) ?_
    refine z_callR (va_runV (C := "ValueTrees") (As := [.int ky]) (rest := []) ⟨hx, hb, hml, hown, hts⟩ (c_V_held l D dT _ Bq vv rg li ed tb tc RV (hC.up hN) hV ky) ⟨callB_of 1 hts (gI gd_up gd_c q275) rfl rfl rfl (ht _ q1) (ht _ q272) hd_V_held ⟨Nat.le_of_ble_eq_true rfl, Nat.le_of_ble_eq_true rfl⟩, ht _ q274, ht _ qs7⟩ (z_preV hK (va_recv hK.1 (z_1 (hvv.grew hN.2)) (ci := 0) (q0 := 0) rfl rfl)) rfl rfl hl.1 rfl (lv_room (Nat.le_of_ble_eq_true rfl)) d_V_put_10 ⟨Nat.zero_le _, Nat.zero_le _⟩) (fun v4 hv3 => ?_)
    rcases hv3 with ⟨rfl, hr7⟩ | ⟨a5, v6, rfl, hr7, hq6⟩
    · refine lv_astoreN (lv' := [(6, .null), (5, .null), (0, .ref vv), (1, .int r), (2, .int tr), (3, .int ky), (4, .int x)]) hx hb d_V_put_13 hl (by decide) rfl (fun ls hl => ?_)
      refine lv_aloadN hx hb d_V_put_15 (lv_at hl 1 rfl) ?_
      refine lv_ifnullN (tgt := 25) hx hb d_V_put_17 (by decide) ?_
      refine lv_iconst (v := (-1)) hx hb d_V_put_25 (by decide) ?_
      exact z_iretQ hx hb hr hlocks d_V_put_26 hS (Nat.le_of_ble_eq_true rfl) (Nat.le_of_ble_eq_true rfl) (by rw [show o_put tb RV tr ky x = none from (by unfold o_put; rw [if_neg (by rw [haf]; decide)])]; exact ⟨rfl, hC⟩)
    · obtain ⟨ht6, hw6, hl6⟩ := vOK_get hV hr7
      obtain ⟨hh6, hnb6⟩ := rv_hd hw6 hq6
      refine lv_astore (lv' := [(6, .ref a5), (5, .null), (0, .ref vv), (1, .int r), (2, .int tr), (3, .int ky), (4, .int x)]) hx hb d_V_put_13 hl (by decide) rfl (fun ls hl => ?_)
      refine lv_aloadN hx hb d_V_put_15 (lv_at hl 1 rfl) ?_
      refine lv_ifnullN (tgt := 25) hx hb d_V_put_17 (by decide) ?_
      refine lv_iconst (v := (-1)) hx hb d_V_put_25 (by decide) ?_
      exact z_iretQ hx hb hr hlocks d_V_put_26 hS (Nat.le_of_ble_eq_true rfl) (Nat.le_of_ble_eq_true rfl) (by rw [show o_put tb RV tr ky x = none from (by unfold o_put; rw [if_neg (by rw [haf]; decide)])]; exact ⟨rfl, hC⟩)
  · obtain ⟨htl, hwd, hwc, hwk, hlc, hlk⟩ := tf_facts hV hat hrt hrk
    obtain ⟨ea, fe, oa, hna, oe, hne, hch⟩ := rv_neg.mp hra
    have hcle := clen_le hwc
    have hlt := (tl_some hO htl (by omega)).2.1
    refine lv_astore (lv' := [(5, .ref at9), (0, .ref vv), (1, .int r), (2, .int tr), (3, .int ky), (4, .int x)]) hx hb d_V_put_6 hl (by decide) rfl (fun ls hl => ?_)
    refine lv_aload_n hx hb d_V_put_8 rfl (lv_at hl 1 rfl) ?_
    refine lv_iload_n hx hb d_V_put_9 rfl (lv_at hl 4 rfl) ?_
    refine z_callR (va_runV (C := "ValueTrees") (As := [.int ky]) (rest := []) ⟨hx, hb, hml, hown, hts⟩ (c_V_held l D dT _ Bq vv rg li ed tb tc RV (hC.up hN) hV ky) ⟨callB_of 1 hts (gI gd_up gd_c q275) rfl rfl rfl (ht _ q1) (ht _ q272) hd_V_held ⟨Nat.le_of_ble_eq_true rfl, Nat.le_of_ble_eq_true rfl⟩, ht _ q274, ht _ qs7⟩ (z_preV hK (va_recv hK.1 (z_1 (hvv.grew hN.2)) (ci := 0) (q0 := 0) rfl rfl)) rfl rfl hl.1 rfl (lv_room (Nat.le_of_ble_eq_true rfl)) d_V_put_10 ⟨Nat.zero_le _, Nat.zero_le _⟩) (fun v9 hv8 => ?_)
    rcases hv8 with ⟨rfl, hr12⟩ | ⟨a10, v11, rfl, hr12, hq11⟩
    · rw [hrk] at hr12; cases hr12
    · have ev11 : kv = v11 := Option.some.inj (hrk.symm.trans hr12)
      subst ev11
      obtain ⟨ht11, hw11, hl11⟩ := vOK_get hV hr12
      obtain ⟨hh11, hnb11⟩ := rv_hd hw11 hq11
      refine lv_astore (lv' := [(6, .ref a10), (5, .ref at9), (0, .ref vv), (1, .int r), (2, .int tr), (3, .int ky), (4, .int x)]) hx hb d_V_put_13 hl (by decide) rfl (fun ls hl => ?_)
      refine lv_aload hx hb d_V_put_15 (lv_at hl 1 rfl) ?_
      refine lv_ifnull hx hb d_V_put_17 ?_
      refine lv_aload hx hb d_V_put_20 (lv_at hl 0 rfl) ?_
      refine lv_ifnonnull (tgt := 27) hx hb d_V_put_22 (by decide) ?_
      refine lv_aload_n hx hb d_V_put_27 rfl (lv_at hl 2 rfl) ?_
      refine lv_aload hx hb d_V_put_28 (lv_at hl 1 rfl) ?_
      refine va_get (D := D) (ci := 7) (v := .int (nI tt)) (C := "ValueTrees$Tree") (T := T_Tree) (N := 3) hx hb ht in_Tree hown hK.1 (z_1 (oa.grew hN.2)) 0 rfl rfl 0 (by decide) (ht _ q237) (u_same (ht _ q238)) rfl d_V_put_30 ?_
      refine z_callR (va_runV (C := "ValueTrees") (As := [.int (nI tt)]) (rest := []) ⟨hx, hb, hml, hown, hts⟩ (c_V_wordOf l D dT _ Bq vv rg li ed tb tc RV (hC.up hN) hV (nI tt)) ⟨callB_of 1 hts (gI gd_up gd_c q327) rfl rfl rfl (ht _ q1) (ht _ q324) hd_V_wordOf ⟨Nat.le_of_ble_eq_true rfl, Nat.le_of_ble_eq_true rfl⟩, ht _ q326, ht _ qs8⟩ (z_preV hK (va_recv hK.1 (z_1 (hvv.grew hN.2)) (ci := 0) (q0 := 0) rfl rfl)) rfl rfl hl.1 rfl (lv_room (Nat.le_of_ble_eq_true rfl)) d_V_put_33 ⟨Nat.zero_le _, Nat.zero_le _⟩) (fun v14 hv13 => ?_)
      subst hv13
      rw [a_word_ev hO htl]
      refine lv_bipush (v := 12) hx hb d_V_put_36 (by decide) ?_
      refine lv_icmp_ne (tgt := 62) hx hb d_V_put_38 (by decide) (fun c15 => ?_) (fun c15 => ?_)
      · have nc15 : ¬ (tW (tb tt)) = 12 := fun h9 => c15 ((nI_eq (a := (tW (tb tt))) (b := 12) (by omega) (by omega)).mpr h9)
        have hw12 : ¬ tW (tb tt) = 12 := nc15
        have hrt9 := (tr_some hO htl (by omega)).2.1
        refine lv_aload_n hx hb d_V_put_62 rfl (lv_at hl 2 rfl) ?_
        refine lv_iload hx hb d_V_put_63 (lv_at hl 6 rfl) ?_
        refine z_callR (va_runV (C := "ValueTrees") (As := [.int x]) (rest := []) ⟨hx, hb, hml, hown, hts⟩ (c_V_held l D dT _ Bq vv rg li ed tb tc RV (hC.up hN) hV x) ⟨callB_of 1 hts (gI gd_up gd_c q275) rfl rfl rfl (ht _ q1) (ht _ q272) hd_V_held ⟨Nat.le_of_ble_eq_true rfl, Nat.le_of_ble_eq_true rfl⟩, ht _ q274, ht _ qs7⟩ (z_preV hK (va_recv hK.1 (z_1 (hvv.grew hN.2)) (ci := 0) (q0 := 0) rfl rfl)) rfl rfl hl.1 rfl (lv_room (Nat.le_of_ble_eq_true rfl)) d_V_put_65 ⟨Nat.zero_le _, Nat.zero_le _⟩) (fun v17 hv16 => ?_)
        rcases hv16 with ⟨rfl, hr20⟩ | ⟨a18, v19, rfl, hr20, hq19⟩
        · refine lv_astoreN (lv' := [(7, .null), (6, .ref a10), (5, .ref at9), (0, .ref vv), (1, .int r), (2, .int tr), (3, .int ky), (4, .int x)]) hx hb d_V_put_68 hl (by decide) rfl (fun ls hl => ?_)
          refine lv_aloadN hx hb d_V_put_70 (lv_at hl 0 rfl) ?_
          refine lv_ifnullN (tgt := 92) hx hb d_V_put_72 (by decide) ?_
          refine lv_iconst (v := (-1)) hx hb d_V_put_92 (by decide) ?_
          exact z_iretQ hx hb hr hlocks d_V_put_93 hS (Nat.le_of_ble_eq_true rfl) (Nat.le_of_ble_eq_true rfl) (by rw [show o_put tb RV tr ky x = none from (by unfold o_put; rw [if_pos hat, hrt, hrk]; dsimp only; refine (if_neg hw12).trans ?_; rw [hr20])]; exact ⟨rfl, hC⟩)
        · obtain ⟨ht19, hw19, hl19⟩ := vOK_get hV hr20
          obtain ⟨hh19, hnb19⟩ := rv_hd hw19 hq19
          refine lv_astore (lv' := [(7, .ref a18), (6, .ref a10), (5, .ref at9), (0, .ref vv), (1, .int r), (2, .int tr), (3, .int ky), (4, .int x)]) hx hb d_V_put_68 hl (by decide) rfl (fun ls hl => ?_)
          refine lv_aload hx hb d_V_put_70 (lv_at hl 0 rfl) ?_
          refine lv_ifnull hx hb d_V_put_72 ?_
          refine lv_aload hx hb d_V_put_75 (lv_at hl 0 rfl) ?_
          refine z_vty hx hb ht hown hK (hh19.grew hN.2) (ht _ q235) d_V_put_77 ?_
          refine lv_aload_n hx hb d_V_put_80 rfl (lv_at hl 3 rfl) ?_
          refine lv_aload hx hb d_V_put_81 (lv_at hl 2 rfl) ?_
          refine va_get (D := D) (ci := 7) (v := .int (nI tt)) (C := "ValueTrees$Tree") (T := T_Tree) (N := 3) hx hb ht in_Tree hown hK.1 (z_1 (oa.grew hN.2)) 0 rfl rfl 0 (by decide) (ht _ q237) (u_same (ht _ q238)) rfl d_V_put_83 ?_
          refine z_callR (va_runV (C := "ValueTrees") (As := [.int (nI tt)]) (rest := [.int (nI (vty v19))]) ⟨hx, hb, hml, hown, hts⟩ (c_V_rightOf l D dT _ Bq vv rg li ed tb tc RV (hC.up hN) hV (nI tt)) ⟨callB_of 1 hts (gI gd_up gd_c q379) rfl rfl rfl (ht _ q1) (ht _ q376) hd_V_rightOf ⟨Nat.le_of_ble_eq_true rfl, Nat.le_of_ble_eq_true rfl⟩, ht _ q378, ht _ qs11⟩ (z_preV hK (va_recv hK.1 (z_1 (hvv.grew hN.2)) (ci := 0) (q0 := 0) rfl rfl)) rfl rfl hl.1 rfl (lv_room (Nat.le_of_ble_eq_true rfl)) d_V_put_86 ⟨Nat.zero_le _, Nat.zero_le _⟩) (fun v22 hv21 => ?_)
          subst hv21
          rw [a_right_ev hO htl (by omega)]
          refine lv_icmp_eq (tgt := 94) hx hb d_V_put_89 (by decide) (fun c23 => ?_) (fun c23 => ?_)
          · have nc23 : (vty v19) = (rt_ tb tt) := (nI_eq (a := (vty v19)) (b := (rt_ tb tt)) (by omega) (by omega)).mp c23
            refine lv_aload_n hx hb d_V_put_94 rfl (lv_at hl 3 rfl) ?_
            refine lv_iload_n hx hb d_V_put_95 rfl (lv_at hl 4 rfl) ?_
            refine lv_aload hx hb d_V_put_96 (lv_at hl 2 rfl) ?_
            have hSp := hS
            refine z_newo (ci := 8) hx hb ht in_Entry ty_Entry tyk_Entry hown (ht _ q351) (ht _ q420) (ht _ q20) hK hS rfl fs_Entry (Nat.le_of_ble_eq_true rfl) (Nat.le_of_ble_eq_true rfl) d_V_put_98 (fun ad24 H hqad24 hzad24 oad24 hoad24 hS => ?_)
            have hgad24 : s.heap.size ≤ ad24 := by rw [hqad24]; exact hSp.1
            have hAad24 : (fun q => q = rg ∨ s.heap.size ≤ q) ad24 := (Or.inr hgad24)
            have hgbad24 := Nat.le_trans hN.1 (Nat.le_of_eq hqad24.symm)
            have hN := hN.grew hzad24 hoad24
            refine lv_dup hx hb d_V_put_101 rfl ?_
            refine lv_aload hx hb d_V_put_102 (lv_at hl 1 rfl) ?_
            refine lv_aload hx hb d_V_put_104 (lv_at hl 0 rfl) ?_
            refine z_callQ (va_runI (As := [.ref a10, .ref a18]) (rest := [.ref ad24, .ref at9, .int r, .ref vv]) ⟨hx, hb, hml, hown, hts⟩ (c_Entry_init_r l D dT _ ad24 oad24 a10 a18 (nI (vty kv)) (nI (cs kv).length) (nI (vty v19)) (nI (cs v19).length) (hh11.grew hN.2) (Nat.ne_of_lt (Nat.lt_of_lt_of_le hh11.lt hgad24)) (hh19.grew hN.2) (Nat.ne_of_lt (Nat.lt_of_lt_of_le hh19.lt hgad24))) ⟨callB_of 2 hts (gI gd_up gd_c q423) rfl rfl rfl (ht _ q20) (ht _ q421) hd_Entry_init ⟨Nat.le_of_ble_eq_true rfl, Nat.le_of_ble_eq_true rfl⟩, rfl, ht _ q422⟩ (z_preS hK) rfl rfl hl.1 rfl (lv_room (Nat.le_of_ble_eq_true rfl)) d_V_put_106 ⟨(Nat.le_of_ble_eq_true rfl), (Nat.le_of_ble_eq_true rfl)⟩) hS (fun q9 h9 => by rw [show q9 = ad24 from h9]; exact hAad24) (fun v26 H locs hv25 hz27 hf28 hS => ?_)
            obtain ⟨rfl, oad24⟩ := hv25
            have oad24 : va_at D cls (ad24, .inr (8, [.ref a10, .ref a18, .int (2 + (nI (cs kv).length) + (nI (cs v19).length))])) H := oad24
            have hN := hN.call hz27 hf28 (fun x hx h9 => by have h8 : x = ad24 := h9; omega)
            refine W.eq (g2 := F0 m 109 ls [.ref ad24, .ref at9, .int r, .ref vv]) rfl ?_
            have hwe : wen tb tt (.add kv v19) := Or.inr ⟨hw12, kv, v19, rfl, hwk, by rw [← nc23]; exact hw19⟩
            have hle9 := eb_add kv v19
            have hre : rq D dT Bq H (.add kv v19) 2 0 ad24 nf := re_add.mpr ⟨a10, a18, by rw [hle9, ← nI_add, ← nI_add]; exact oad24, (fun h9 => absurd (hBs _ h9) (Nat.not_lt.mpr hgad24)), rq_up hN.2 hq11, rq_up hN.2 hq19⟩
            refine z_callQ (va_runS (As := [.ref at9, .ref ad24]) (rest := [.int r, .ref vv]) ⟨hx, hb, hml, hown, hts⟩ (c_V_withEntry l D dT _ Bq tb tc hO at9 ad24 (.add kv v19) ch kv tt htl hwd hwc hwk (rq_up hN.2 hra) (by omega) hwe hre rfl (by omega) (fun q9 h9 => Nat.lt_of_lt_of_le (hBs q9 h9) hN.1)) ⟨callB_of 2 hts (gI gd_up gd_c q440) rfl rfl rfl (ht _ q1) (ht _ q438) hd_V_withEntry ⟨Nat.le_of_ble_eq_true rfl, Nat.le_of_ble_eq_true rfl⟩, ht _ q439⟩ (z_preS hK) rfl rfl hl.1 rfl (lv_room (Nat.le_of_ble_eq_true rfl)) d_V_put_109 ⟨(Nat.le_of_ble_eq_true rfl), (Nat.le_of_ble_eq_true rfl)⟩) hS (fun _ h9 => Or.inr (Nat.le_trans hN.1 h9)) (fun v30 H locs hv29 hz31 hf32 hS => ?_)
            obtain ⟨ad33, rfl, hgad33, hrvad33⟩ := hv29
            have hN := hN.call hz31 hf32 (fun x hx h9 => absurd (Nat.lt_of_lt_of_le hx hN.1) (Nat.not_lt.mpr h9))
            refine W.eq (g2 := F0 m 112 ls [.ref ad33, .int r, .ref vv]) rfl ?_
            have hid := ins_done (k := kv) hwd hwc hwe
            have hlen : (cs (insE (.pow (.neg ch) tt) kv (.add kv v19))).length ≤ 2000 := by
              rw [hid.2]
              simp only [List.length_cons, List.length_append, size4_len]
              have h9 := cs_split kv hwc
              have h8 := rst_len ch kv
              have h7 : (cs ch).length = (cs (prc ch kv)).length + (cs (skp ch kv)).length := by rw [h9, List.length_append]
              omega
            refine z_callQ (va_runV (C := "ValueTrees") (As := [.int r, .ref ad33]) (rest := []) ⟨hx, hb, hml, hown, hts⟩ (c_V_keep_r l D dT _ Bq vv rg li ed tb tc RV (hC.up hN) hV r (insE (.pow (.neg ch) tt) kv (.add kv v19)) tt ad33 hid.1 hrvad33 (by omega)) ⟨callB_of 2 hts (gI gd_up gd_c q264) rfl rfl rfl (ht _ q1) (ht _ q261) hd_V_keep ⟨Nat.le_of_ble_eq_true rfl, Nat.le_of_ble_eq_true rfl⟩, ht _ q263, ht _ qs6⟩ (z_preV hK (va_recv hK.1 (z_1 (hvv.grew hN.2)) (ci := 0) (q0 := 0) rfl rfl)) rfl rfl hl.1 rfl (lv_room (Nat.le_of_ble_eq_true rfl)) d_V_put_112 ⟨(Nat.le_of_ble_eq_true rfl), (Nat.le_of_ble_eq_true rfl)⟩) hS (fun _ h9 => Or.inl h9) (fun v35 H locs hv34 hz36 hf37 hS => ?_)
            obtain ⟨rfl, hC⟩ := hv34
            refine W.eq (g2 := F0 m 115 ls [.int ((kp RV r (some (insE (.pow (.neg ch) tt) kv (.add kv v19)))).1)]) rfl ?_
            exact z_iretQ hx hb hr hlocks d_V_put_115 hS (Nat.le_of_ble_eq_true rfl) (Nat.le_of_ble_eq_true rfl) (by rw [show o_put tb RV tr ky x = (some (insE (.pow (.neg ch) tt) kv (.add kv v19))) from (by unfold o_put; rw [if_pos hat, hrt, hrk]; dsimp only; refine (if_neg hw12).trans ?_; rw [hr20]; exact if_pos nc23)]; exact ⟨rfl, hC⟩)
          · have nc23 : ¬ (vty v19) = (rt_ tb tt) := fun h9 => c23 ((nI_eq (a := (vty v19)) (b := (rt_ tb tt)) (by omega) (by omega)).mpr h9)
            refine lv_iconst (v := (-1)) hx hb d_V_put_92 (by decide) ?_
            exact z_iretQ hx hb hr hlocks d_V_put_93 hS (Nat.le_of_ble_eq_true rfl) (Nat.le_of_ble_eq_true rfl) (by rw [show o_put tb RV tr ky x = none from (by unfold o_put; rw [if_pos hat, hrt, hrk]; dsimp only; refine (if_neg hw12).trans ?_; rw [hr20]; exact if_neg nc23)]; exact ⟨rfl, hC⟩)
      · have nc15 : (tW (tb tt)) = 12 := (nI_eq (a := (tW (tb tt))) (b := 12) (by omega) (by omega)).mp c15
        have hw12 : tW (tb tt) = 12 := nc15
        refine lv_aload_n hx hb d_V_put_41 rfl (lv_at hl 2 rfl) ?_
        refine lv_iload_n hx hb d_V_put_42 rfl (lv_at hl 3 rfl) ?_
        refine lv_aload hx hb d_V_put_43 (lv_at hl 1 rfl) ?_
        have hSp := hS
        refine z_newo (ci := 8) hx hb ht in_Entry ty_Entry tyk_Entry hown (ht _ q351) (ht _ q420) (ht _ q20) hK hS rfl fs_Entry (Nat.le_of_ble_eq_true rfl) (Nat.le_of_ble_eq_true rfl) d_V_put_45 (fun ad38 H hqad38 hzad38 oad38 hoad38 hS => ?_)
        have hgad38 : s.heap.size ≤ ad38 := by rw [hqad38]; exact hSp.1
        have hAad38 : (fun q => q = rg ∨ s.heap.size ≤ q) ad38 := (Or.inr hgad38)
        have hgbad38 := Nat.le_trans hN.1 (Nat.le_of_eq hqad38.symm)
        have hN := hN.grew hzad38 hoad38
        refine lv_dup hx hb d_V_put_48 rfl ?_
        refine lv_aload hx hb d_V_put_49 (lv_at hl 0 rfl) ?_
        refine lv_null hx hb d_V_put_51 ?_
        refine z_callQ (va_runI (As := [.ref a10, .null]) (rest := [.ref ad38, .ref at9, .int r, .ref vv]) ⟨hx, hb, hml, hown, hts⟩ (c_Entry_init_n l D dT _ ad38 oad38 a10 (nI (vty kv)) (nI (cs kv).length) (hh11.grew hN.2) (Nat.ne_of_lt (Nat.lt_of_lt_of_le hh11.lt hgad38))) ⟨callB_of 2 hts (gI gd_up gd_c q423) rfl rfl rfl (ht _ q20) (ht _ q421) hd_Entry_init ⟨Nat.le_of_ble_eq_true rfl, Nat.le_of_ble_eq_true rfl⟩, rfl, ht _ q422⟩ (z_preS hK) rfl rfl hl.1 rfl (lv_room (Nat.le_of_ble_eq_true rfl)) d_V_put_52 ⟨(Nat.le_of_ble_eq_true rfl), (Nat.le_of_ble_eq_true rfl)⟩) hS (fun q9 h9 => by rw [show q9 = ad38 from h9]; exact hAad38) (fun v40 H locs hv39 hz41 hf42 hS => ?_)
        obtain ⟨rfl, oad38⟩ := hv39
        have oad38 : va_at D cls (ad38, .inr (8, [.ref a10, .null, .int (nI (cs kv).length)])) H := oad38
        have hN := hN.call hz41 hf42 (fun x hx h9 => by have h8 : x = ad38 := h9; omega)
        refine W.eq (g2 := F0 m 55 ls [.ref ad38, .ref at9, .int r, .ref vv]) rfl ?_
        have hwe : wen tb tt kv := Or.inl ⟨hw12, hwk⟩
        have hre := re_key hwk oad38 (fun h9 => absurd (hBs _ h9) (Nat.not_lt.mpr hgad38)) (rq_up hN.2 hq11)
        have hle9 : (eb kv).length = (cs kv).length := by rw [eb_pow hwk]
        refine z_callQ (va_runS (As := [.ref at9, .ref ad38]) (rest := [.int r, .ref vv]) ⟨hx, hb, hml, hown, hts⟩ (c_V_withEntry l D dT _ Bq tb tc hO at9 ad38 kv ch kv tt htl hwd hwc hwk (rq_up hN.2 hra) (by omega) hwe hre (en_pow hwk).2 (by omega) (fun q9 h9 => Nat.lt_of_lt_of_le (hBs q9 h9) hN.1)) ⟨callB_of 2 hts (gI gd_up gd_c q440) rfl rfl rfl (ht _ q1) (ht _ q438) hd_V_withEntry ⟨Nat.le_of_ble_eq_true rfl, Nat.le_of_ble_eq_true rfl⟩, ht _ q439⟩ (z_preS hK) rfl rfl hl.1 rfl (lv_room (Nat.le_of_ble_eq_true rfl)) d_V_put_55 ⟨(Nat.le_of_ble_eq_true rfl), (Nat.le_of_ble_eq_true rfl)⟩) hS (fun _ h9 => Or.inr (Nat.le_trans hN.1 h9)) (fun v44 H locs hv43 hz45 hf46 hS => ?_)
        obtain ⟨ad47, rfl, hgad47, hrvad47⟩ := hv43
        have hN := hN.call hz45 hf46 (fun x hx h9 => absurd (Nat.lt_of_lt_of_le hx hN.1) (Nat.not_lt.mpr h9))
        refine W.eq (g2 := F0 m 58 ls [.ref ad47, .int r, .ref vv]) rfl ?_
        have hid := ins_done (k := kv) hwd hwc hwe
        have hlen : (cs (insE (.pow (.neg ch) tt) kv kv)).length ≤ 2000 := by
          rw [hid.2]
          simp only [List.length_cons, List.length_append, size4_len]
          have h9 := cs_split kv hwc
          have h8 := rst_len ch kv
          have h7 : (cs ch).length = (cs (prc ch kv)).length + (cs (skp ch kv)).length := by rw [h9, List.length_append]
          omega
        refine z_callQ (va_runV (C := "ValueTrees") (As := [.int r, .ref ad47]) (rest := []) ⟨hx, hb, hml, hown, hts⟩ (c_V_keep_r l D dT _ Bq vv rg li ed tb tc RV (hC.up hN) hV r (insE (.pow (.neg ch) tt) kv kv) tt ad47 hid.1 hrvad47 (by omega)) ⟨callB_of 2 hts (gI gd_up gd_c q264) rfl rfl rfl (ht _ q1) (ht _ q261) hd_V_keep ⟨Nat.le_of_ble_eq_true rfl, Nat.le_of_ble_eq_true rfl⟩, ht _ q263, ht _ qs6⟩ (z_preV hK (va_recv hK.1 (z_1 (hvv.grew hN.2)) (ci := 0) (q0 := 0) rfl rfl)) rfl rfl hl.1 rfl (lv_room (Nat.le_of_ble_eq_true rfl)) d_V_put_58 ⟨(Nat.le_of_ble_eq_true rfl), (Nat.le_of_ble_eq_true rfl)⟩) hS (fun _ h9 => Or.inl h9) (fun v49 H locs hv48 hz50 hf51 hS => ?_)
        obtain ⟨rfl, hC⟩ := hv48
        refine W.eq (g2 := F0 m 61 ls [.int ((kp RV r (some (insE (.pow (.neg ch) tt) kv kv))).1)]) rfl ?_
        exact z_iretQ hx hb hr hlocks d_V_put_61 hS (Nat.le_of_ble_eq_true rfl) (Nat.le_of_ble_eq_true rfl) (by rw [show o_put tb RV tr ky x = (some (insE (.pow (.neg ch) tt) kv kv)) from (by unfold o_put; rw [if_pos hat, hrt, hrk]; dsimp only; exact if_pos hw12)]; exact ⟨rfl, hC⟩)
