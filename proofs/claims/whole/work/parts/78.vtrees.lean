abbrev b_V_treeFor : ByteArray := prog_1_method_49_code
abbrev y_V_treeFor : MethodName := ⟨"ValueTrees", "treeFor", "(II)LValueTrees$Tree;"⟩
abbrev w_V_treeFor : List Cond := .code y_V_treeFor b_V_treeFor 6 (Option.some (.object "ValueTrees$Tree")) :: gt
theorem hd_V_treeFor : (y_V_treeFor).cls ≠ "java/lang/invoke/MethodHandle" ∧ (y_V_treeFor).cls ≠ "java/lang/invoke/VarHandle" ∧ (parseMethodDescriptor (y_V_treeFor).desc).map (fun d => d.parameters.length) = some 2 := by decide +kernel
theorem d_V_treeFor_0 : decode b_V_treeFor 0 = .ok (.aload_n 0, 1) := by decide +kernel
theorem d_V_treeFor_1 : decode b_V_treeFor 1 = .ok (.iload_n 2, 1) := by decide +kernel
theorem d_V_treeFor_2 : decode b_V_treeFor 2 = .ok (.invokevirtual 77, 3) := by decide +kernel
theorem d_V_treeFor_5 : decode b_V_treeFor 5 = .ok (.astore_n 3, 1) := by decide +kernel
theorem d_V_treeFor_6 : decode b_V_treeFor 6 = .ok (.aload_n 3, 1) := by decide +kernel
theorem d_V_treeFor_7 : decode b_V_treeFor 7 = .ok (.ifnull 28, 3) := by decide +kernel
theorem d_V_treeFor_10 : decode b_V_treeFor 10 = .ok (.aload_n 0, 1) := by decide +kernel
theorem d_V_treeFor_11 : decode b_V_treeFor 11 = .ok (.iload_n 1, 1) := by decide +kernel
theorem d_V_treeFor_12 : decode b_V_treeFor 12 = .ok (.invokevirtual 77, 3) := by decide +kernel
theorem d_V_treeFor_15 : decode b_V_treeFor 15 = .ok (.astore 5, 2) := by decide +kernel
theorem d_V_treeFor_17 : decode b_V_treeFor 17 = .ok (.aload 5, 2) := by decide +kernel
theorem d_V_treeFor_19 : decode b_V_treeFor 19 = .ok (.instanceof 118, 3) := by decide +kernel
theorem d_V_treeFor_22 : decode b_V_treeFor 22 = .ok (.ifCond .eq 13, 3) := by decide +kernel
theorem d_V_treeFor_25 : decode b_V_treeFor 25 = .ok (.aload 5, 2) := by decide +kernel
theorem d_V_treeFor_27 : decode b_V_treeFor 27 = .ok (.checkcast 118, 3) := by decide +kernel
theorem d_V_treeFor_30 : decode b_V_treeFor 30 = .ok (.astore 4, 2) := by decide +kernel
theorem d_V_treeFor_32 : decode b_V_treeFor 32 = .ok (.goto 5, 3) := by decide +kernel
theorem d_V_treeFor_35 : decode b_V_treeFor 35 = .ok (.aconst_null, 1) := by decide +kernel
theorem d_V_treeFor_36 : decode b_V_treeFor 36 = .ok (.areturn, 1) := by decide +kernel
theorem d_V_treeFor_37 : decode b_V_treeFor 37 = .ok (.aload_n 3, 1) := by decide +kernel
theorem d_V_treeFor_38 : decode b_V_treeFor 38 = .ok (.getfield 125, 3) := by decide +kernel
theorem d_V_treeFor_41 : decode b_V_treeFor 41 = .ok (.aload_n 0, 1) := by decide +kernel
theorem d_V_treeFor_42 : decode b_V_treeFor 42 = .ok (.aload 4, 2) := by decide +kernel
theorem d_V_treeFor_44 : decode b_V_treeFor 44 = .ok (.getfield 154, 3) := by decide +kernel
theorem d_V_treeFor_47 : decode b_V_treeFor 47 = .ok (.invokevirtual 144, 3) := by decide +kernel
theorem d_V_treeFor_50 : decode b_V_treeFor 50 = .ok (.if_icmp .ne 8, 3) := by decide +kernel
theorem d_V_treeFor_53 : decode b_V_treeFor 53 = .ok (.aload 4, 2) := by decide +kernel
theorem d_V_treeFor_55 : decode b_V_treeFor 55 = .ok (.goto 4, 3) := by decide +kernel
theorem d_V_treeFor_58 : decode b_V_treeFor 58 = .ok (.aconst_null, 1) := by decide +kernel
theorem d_V_treeFor_59 : decode b_V_treeFor 59 = .ok (.areturn, 1) := by decide +kernel
set_option maxHeartbeats 4000000 in
set_option maxRecDepth 100000 in
theorem c_V_treeFor (l : Launch) (D : va_G) (dT : Nat → ClassId) (H : Heap) (Bq : Nat → Prop) (vv rg li ed : Nat) (tb : Nat → TR) (tc : Nat) (RV : Nat → Option VT) (hC : cI D dT Bq vv rg li ed tb tc RV H) (hV : vOK tb tc RV) (tr ky : Int32) : Met l y_V_treeFor w_V_treeFor ({ frames := 5, cells := 0, slots := 0, locals := 107 }) (z_P D dT [.ref vv, .int tr, .int ky] H) (z_R (tfP D dT Bq tb RV tr ky H)) 0 0 (fun _ => False) := by
  obtain ⟨⟨hBs, hBr, hBl, hBe, hBv, hrl, hre, hle⟩, hvv, hCR, hCT⟩ := id hC
  have hO := hV.1
  have htc := hO.1
  have htc10 := hO.2.1
  refine Met.ofW (cc := b_V_treeFor) (maxL := 6) (ret := (Option.some (.object "ValueTrees$Tree"))) (by decide) rfl ?_
  intro p e s m args below meth c s₁ B hml hv
  obtain ⟨rfl, rfl, hK⟩ := hv
  have hx := B.exec
  have hb := B.bytes
  have hr := B.returns
  have hts := atoms_spec (ws := w_V_treeFor) B.pre
  have ht : ∀ w9 ∈ gt, w9.before [.ref vv, .int tr, .int ky].toArray s = true := fun w9 h => hts w9 (List.mem_cons_of_mem _ h)
  have hown : s.vm.findClass "ValueTrees" = some m.cls := findClass_of_methodNamed B.named
  have hlocks := B.notSynchronized
  have hl := lv_entry ([.ref vv, .int tr, .int ky]) (n := 6) (Nat.le_of_ble_eq_true rfl)
  rw [lg_entry_eq]
  generalize (lg_sl ([.ref vv, .int tr, .int ky]) ++ List.replicate (6 - (lg_sl ([.ref vv, .int tr, .int ky])).length) Slot.unset).toArray = ls at hl ⊢
  have hl : lv_has ls 6 [(0, .ref vv), (1, .int tr), (2, .int ky)] := hl
  refine lv_aload_n hx hb d_V_treeFor_0 rfl (lv_at hl 0 rfl) ?_
  refine lv_iload_n hx hb d_V_treeFor_1 rfl (lv_at hl 2 rfl) ?_
  refine z_callR (va_runV (C := "ValueTrees") (As := [.int ky]) (rest := []) ⟨hx, hb, hml, hown, hts⟩ (c_V_held l D dT _ Bq vv rg li ed tb tc RV hC hV ky) ⟨callB_of 1 hts (gI gd_up gd_c q275) rfl rfl rfl (ht _ q1) (ht _ q272) hd_V_held ⟨Nat.le_of_ble_eq_true rfl, Nat.le_of_ble_eq_true rfl⟩, ht _ q274, ht _ qs7⟩ (z_preV hK (va_recv hK.1 (z_1 hvv) (ci := 0) (q0 := 0) rfl rfl)) rfl rfl hl.1 rfl (lv_room (Nat.le_of_ble_eq_true rfl)) d_V_treeFor_2 ⟨Nat.zero_le _, Nat.zero_le _⟩) (fun v2 hv1 => ?_)
  rcases hv1 with ⟨rfl, hr5⟩ | ⟨a3, v4, rfl, hr5, hq4⟩
  · refine lv_astore_nN (lv' := [(3, .null), (0, .ref vv), (1, .int tr), (2, .int ky)]) hx hb d_V_treeFor_5 rfl hl (by decide) rfl (fun ls hl => ?_)
    refine lv_aload_nN hx hb d_V_treeFor_6 rfl (lv_at hl 0 rfl) ?_
    refine lv_ifnullN (tgt := 35) hx hb d_V_treeFor_7 (by decide) ?_
    refine lv_null hx hb d_V_treeFor_35 ?_
    exact z_aretR hx hb hr hlocks d_V_treeFor_36 (Or.inl ⟨_, rfl⟩) (Or.inl rfl) (Or.inl ⟨rfl, by unfold aTK; rw [hr5]; split <;> first | rfl | (rename_i h9; cases h9)⟩)
  · obtain ⟨ht4, hw4, hl4⟩ := vOK_get hV hr5
    obtain ⟨hh4, hnb4⟩ := rv_hd hw4 hq4
    refine lv_astore_n (lv' := [(3, .ref a3), (0, .ref vv), (1, .int tr), (2, .int ky)]) hx hb d_V_treeFor_5 rfl hl (by decide) rfl (fun ls hl => ?_)
    refine lv_aload_n hx hb d_V_treeFor_6 rfl (lv_at hl 0 rfl) ?_
    refine lv_ifnull hx hb d_V_treeFor_7 ?_
    refine lv_aload_n hx hb d_V_treeFor_10 rfl (lv_at hl 1 rfl) ?_
    refine lv_iload_n hx hb d_V_treeFor_11 rfl (lv_at hl 2 rfl) ?_
    refine z_callR (va_runV (C := "ValueTrees") (As := [.int tr]) (rest := []) ⟨hx, hb, hml, hown, hts⟩ (c_V_held l D dT _ Bq vv rg li ed tb tc RV hC hV tr) ⟨callB_of 1 hts (gI gd_up gd_c q275) rfl rfl rfl (ht _ q1) (ht _ q272) hd_V_held ⟨Nat.le_of_ble_eq_true rfl, Nat.le_of_ble_eq_true rfl⟩, ht _ q274, ht _ qs7⟩ (z_preV hK (va_recv hK.1 (z_1 hvv) (ci := 0) (q0 := 0) rfl rfl)) rfl rfl hl.1 rfl (lv_room (Nat.le_of_ble_eq_true rfl)) d_V_treeFor_12 ⟨Nat.zero_le _, Nat.zero_le _⟩) (fun v7 hv6 => ?_)
    rcases hv6 with ⟨rfl, hr10⟩ | ⟨a8, v9, rfl, hr10, hq9⟩
    · refine lv_astoreN (lv' := [(5, .null), (3, .ref a3), (0, .ref vv), (1, .int tr), (2, .int ky)]) hx hb d_V_treeFor_15 hl (by decide) rfl (fun ls hl => ?_)
      refine lv_aloadN hx hb d_V_treeFor_17 (lv_at hl 0 rfl) ?_
      refine lv_instN hx hb d_V_treeFor_19 ?_
      refine lv_if_eq (tgt := 35) hx hb d_V_treeFor_22 (by decide) (fun _ => ?_) (fun c11 => absurd c11 (by decide))
      refine lv_null hx hb d_V_treeFor_35 ?_
      exact z_aretR hx hb hr hlocks d_V_treeFor_36 (Or.inl ⟨_, rfl⟩) (Or.inl rfl) (Or.inl ⟨rfl, by unfold aTK; rw [hr10]⟩)
    · obtain ⟨ht9, hw9, hl9⟩ := vOK_get hV hr10
      obtain ⟨hh9, hnb9⟩ := rv_hd hw9 hq9
      obtain ⟨c9, ec9, hc9⟩ := wty_pow hw9
      rw [ec9] at hq9
      cases c9 with
      | num z9 =>
        obtain ⟨d9, oa9, hna9, od9, hnd9⟩ := rv_num.mp hq9
        have hnb9 : nb z9.natAbs ≤ 1024 := nb_lt.mpr hc9.2.2.1
        refine lv_astore (lv' := [(5, .ref a8), (3, .ref a3), (0, .ref vv), (1, .int tr), (2, .int ky)]) hx hb d_V_treeFor_15 hl (by decide) rfl (fun ls hl => ?_)
        refine lv_aload hx hb d_V_treeFor_17 (lv_at hl 0 rfl) ?_
        refine va_instNo (C := "ValueTrees$Whole") hx hb hown (ht _ q349) (hK.2.1 _ nc_Whole_Tree) (z_recv hK oa9 rfl) d_V_treeFor_19 ?_
        refine lv_if_eq (tgt := 35) hx hb d_V_treeFor_22 (by decide) (fun _ => ?_) (fun c12 => absurd c12 (by decide))
        refine lv_null hx hb d_V_treeFor_35 ?_
        exact z_aretR hx hb hr hlocks d_V_treeFor_36 (Or.inl ⟨_, rfl⟩) (Or.inl rfl) (Or.inl ⟨rfl, by unfold aTK; rw [hr10, hr5]; dsimp only; rw [decide_eq_false (by have h9 := hc9; simp only [wty] at h9; omega)]; rfl⟩)
      | natCast k9 =>
        obtain ⟨x9, oa9, hna9, hx9⟩ := rv_row.mp hq9
        have hk9 : k9 % 16 ≤ 8 := hc9.2.2.1
        refine lv_astore (lv' := [(5, .ref a8), (3, .ref a3), (0, .ref vv), (1, .int tr), (2, .int ky)]) hx hb d_V_treeFor_15 hl (by decide) rfl (fun ls hl => ?_)
        refine lv_aload hx hb d_V_treeFor_17 (lv_at hl 0 rfl) ?_
        refine va_instNo (C := "ValueTrees$Row") hx hb hown (ht _ q349) (hK.2.1 _ nc_Row_Tree) (z_recv hK oa9 rfl) d_V_treeFor_19 ?_
        refine lv_if_eq (tgt := 35) hx hb d_V_treeFor_22 (by decide) (fun _ => ?_) (fun c13 => absurd c13 (by decide))
        refine lv_null hx hb d_V_treeFor_35 ?_
        exact z_aretR hx hb hr hlocks d_V_treeFor_36 (Or.inl ⟨_, rfl⟩) (Or.inl rfl) (Or.inl ⟨rfl, by unfold aTK; rw [hr10, hr5]; dsimp only; rw [decide_eq_false (by have h9 := hc9; simp only [wty] at h9; omega)]; rfl⟩)
      | intCast k9 =>
        obtain ⟨oa9, hna9⟩ := rv_nil.mp hq9
        refine lv_astore (lv' := [(5, .ref a8), (3, .ref a3), (0, .ref vv), (1, .int tr), (2, .int ky)]) hx hb d_V_treeFor_15 hl (by decide) rfl (fun ls hl => ?_)
        refine lv_aload hx hb d_V_treeFor_17 (lv_at hl 0 rfl) ?_
        refine va_instNo (C := "ValueTrees$Chain") hx hb hown (ht _ q349) (hK.2.1 _ nc_Chain_Tree) (z_recv hK oa9 rfl) d_V_treeFor_19 ?_
        refine lv_if_eq (tgt := 35) hx hb d_V_treeFor_22 (by decide) (fun _ => ?_) (fun c14 => absurd c14 (by decide))
        refine lv_null hx hb d_V_treeFor_35 ?_
        exact z_aretR hx hb hr hlocks d_V_treeFor_36 (Or.inl ⟨_, rfl⟩) (Or.inl rfl) (Or.inl ⟨rfl, by unfold aTK; rw [hr10, hr5]; dsimp only; rw [decide_eq_false (by have h9 := hc9; simp only [wty] at h9; omega)]; rfl⟩)
      | var i9 =>
        obtain ⟨oa9, hna9⟩ := rv_var.mp hq9
        refine lv_astore (lv' := [(5, .ref a8), (3, .ref a3), (0, .ref vv), (1, .int tr), (2, .int ky)]) hx hb d_V_treeFor_15 hl (by decide) rfl (fun ls hl => ?_)
        refine lv_aload hx hb d_V_treeFor_17 (lv_at hl 0 rfl) ?_
        refine va_instNo (C := "ValueTrees$Choice") hx hb hown (ht _ q349) (hK.2.1 _ nc_Choice_Tree) (z_recv hK oa9 rfl) d_V_treeFor_19 ?_
        refine lv_if_eq (tgt := 35) hx hb d_V_treeFor_22 (by decide) (fun _ => ?_) (fun c15 => absurd c15 (by decide))
        refine lv_null hx hb d_V_treeFor_35 ?_
        exact z_aretR hx hb hr hlocks d_V_treeFor_36 (Or.inl ⟨_, rfl⟩) (Or.inl rfl) (Or.inl ⟨rfl, by unfold aTK; rw [hr10, hr5]; dsimp only; rw [decide_eq_false (by have h9 := hc9; simp only [wty] at h9; omega)]; rfl⟩)
      | neg ch9 =>
        obtain ⟨e9, f9, oa9, hna9, oe9, hne9, hch9⟩ := rv_neg.mp hq9
        obtain ⟨hwd9, hwc9⟩ := neg_ch hc9
        have hlt9 := (tl_some hO ht9 (by omega)).2.1
        refine lv_astore (lv' := [(5, .ref a8), (3, .ref a3), (0, .ref vv), (1, .int tr), (2, .int ky)]) hx hb d_V_treeFor_15 hl (by decide) rfl (fun ls hl => ?_)
        refine lv_aload hx hb d_V_treeFor_17 (lv_at hl 0 rfl) ?_
        refine va_instE hx hb hown (ht _ q349) (z_recv hK oa9 rfl) d_V_treeFor_19 ?_
        refine lv_if_eq (tgt := 35) hx hb d_V_treeFor_22 (by decide) (fun c16 => absurd c16 (by decide)) (fun _ => ?_)
        refine lv_aload hx hb d_V_treeFor_25 (lv_at hl 0 rfl) ?_
        refine va_castE hx hb hown (ht _ q349) (z_recv hK oa9 rfl) d_V_treeFor_27 ?_
        refine lv_astore (lv' := [(4, .ref a8), (5, .ref a8), (3, .ref a3), (0, .ref vv), (1, .int tr), (2, .int ky)]) hx hb d_V_treeFor_30 hl (by decide) rfl (fun ls hl => ?_)
        refine lv_goto (tgt := 37) hx hb d_V_treeFor_32 (by decide) ?_
        refine lv_aload_n hx hb d_V_treeFor_37 rfl (lv_at hl 2 rfl) ?_
        refine z_vty hx hb ht hown hK hh4 (ht _ q235) d_V_treeFor_38 ?_
        refine lv_aload_n hx hb d_V_treeFor_41 rfl (lv_at hl 3 rfl) ?_
        refine lv_aload hx hb d_V_treeFor_42 (lv_at hl 0 rfl) ?_
        refine va_get (D := D) (ci := 7) (v := .int (nI (vty v9))) (C := "ValueTrees$Tree") (T := T_Tree) (N := 3) hx hb ht in_Tree hown hK.1 (z_1 oa9) 0 rfl rfl 0 (by decide) (ht _ q237) (u_same (ht _ q238)) rfl d_V_treeFor_44 ?_
        refine z_callR (va_runV (C := "ValueTrees") (As := [.int (nI (vty v9))]) (rest := [.int (nI (vty v4))]) ⟨hx, hb, hml, hown, hts⟩ (c_V_leftOf l D dT _ Bq vv rg li ed tb tc RV hC hV (nI (vty v9))) ⟨callB_of 1 hts (gI gd_up gd_c q375) rfl rfl rfl (ht _ q1) (ht _ q372) hd_V_leftOf ⟨Nat.le_of_ble_eq_true rfl, Nat.le_of_ble_eq_true rfl⟩, ht _ q374, ht _ qs10⟩ (z_preV hK (va_recv hK.1 (z_1 hvv) (ci := 0) (q0 := 0) rfl rfl)) rfl rfl hl.1 rfl (lv_room (Nat.le_of_ble_eq_true rfl)) d_V_treeFor_47 ⟨Nat.zero_le _, Nat.zero_le _⟩) (fun v18 hv17 => ?_)
        subst hv17
        rw [a_left_ev hO ht9 (by omega)]
        refine lv_icmp_ne (tgt := 58) hx hb d_V_treeFor_50 (by decide) (fun c19 => ?_) (fun c19 => ?_)
        · have nc19 : ¬ (vty v4) = (lt_ tb (vty v9)) := fun h9 => c19 ((nI_eq (a := (vty v4)) (b := (lt_ tb (vty v9))) (by omega) (by omega)).mpr h9)
          refine lv_null hx hb d_V_treeFor_58 ?_
          exact z_aretR hx hb hr hlocks d_V_treeFor_59 (Or.inl ⟨_, rfl⟩) (Or.inl rfl) (Or.inl ⟨rfl, by unfold aTK; rw [hr10, hr5]; dsimp only; rw [decide_eq_false (p := vty v4 = _) nc19, Bool.and_false]⟩)
        · have nc19 : (vty v4) = (lt_ tb (vty v9)) := (nI_eq (a := (vty v4)) (b := (lt_ tb (vty v9))) (by omega) (by omega)).mp c19
          refine lv_aload hx hb d_V_treeFor_53 (lv_at hl 0 rfl) ?_
          refine lv_goto (tgt := 59) hx hb d_V_treeFor_55 (by decide) ?_
          exact z_aretR hx hb hr hlocks d_V_treeFor_59 (Or.inl ⟨_, rfl⟩) (Or.inr ⟨_, rfl⟩) (Or.inr ⟨a8, ch9, vty v9, v4, rfl, by unfold aTK; rw [hr10, hr5]; dsimp only; rw [decide_eq_true hwd9, decide_eq_true (p := vty v4 = _) nc19]; rfl, by rw [hr10, ← ec9], hr5, hq9⟩)
      | add x9 y9 =>
        obtain ⟨b9, d9, oa9, hna9, hb9, hd9⟩ := rv_add.mp hq9
        refine lv_astore (lv' := [(5, .ref a8), (3, .ref a3), (0, .ref vv), (1, .int tr), (2, .int ky)]) hx hb d_V_treeFor_15 hl (by decide) rfl (fun ls hl => ?_)
        refine lv_aload hx hb d_V_treeFor_17 (lv_at hl 0 rfl) ?_
        refine va_instNo (C := "ValueTrees$Couple") hx hb hown (ht _ q349) (hK.2.1 _ nc_Couple_Tree) (z_recv hK oa9 rfl) d_V_treeFor_19 ?_
        refine lv_if_eq (tgt := 35) hx hb d_V_treeFor_22 (by decide) (fun _ => ?_) (fun c20 => absurd c20 (by decide))
        refine lv_null hx hb d_V_treeFor_35 ?_
        exact z_aretR hx hb hr hlocks d_V_treeFor_36 (Or.inl ⟨_, rfl⟩) (Or.inl rfl) (Or.inl ⟨rfl, by unfold aTK; rw [hr10, hr5]; dsimp only; rw [decide_eq_false (by have h9 := hc9; simp only [wty] at h9; omega)]; rfl⟩)
      | sub a9 x9 =>
        obtain ⟨b9, oa9, hna9, hb9⟩ := rv_sub.mp hq9
        refine lv_astore (lv' := [(5, .ref a8), (3, .ref a3), (0, .ref vv), (1, .int tr), (2, .int ky)]) hx hb d_V_treeFor_15 hl (by decide) rfl (fun ls hl => ?_)
        refine lv_aload hx hb d_V_treeFor_17 (lv_at hl 0 rfl) ?_
        refine va_instNo (C := "ValueTrees$Choice") hx hb hown (ht _ q349) (hK.2.1 _ nc_Choice_Tree) (z_recv hK oa9 rfl) d_V_treeFor_19 ?_
        refine lv_if_eq (tgt := 35) hx hb d_V_treeFor_22 (by decide) (fun _ => ?_) (fun c21 => absurd c21 (by decide))
        refine lv_null hx hb d_V_treeFor_35 ?_
        exact z_aretR hx hb hr hlocks d_V_treeFor_36 (Or.inl ⟨_, rfl⟩) (Or.inl rfl) (Or.inl ⟨rfl, by unfold aTK; rw [hr10, hr5]; dsimp only; rw [decide_eq_false (by have h9 := hc9; simp only [wty] at h9; omega)]; rfl⟩)
      | mul x9 y9 =>
        obtain ⟨b9, d9, oa9, hna9, hb9, hd9⟩ := rv_mul.mp hq9
        refine lv_astore (lv' := [(5, .ref a8), (3, .ref a3), (0, .ref vv), (1, .int tr), (2, .int ky)]) hx hb d_V_treeFor_15 hl (by decide) rfl (fun ls hl => ?_)
        refine lv_aload hx hb d_V_treeFor_17 (lv_at hl 0 rfl) ?_
        refine va_instNo (C := "ValueTrees$Chain") hx hb hown (ht _ q349) (hK.2.1 _ nc_Chain_Tree) (z_recv hK oa9 rfl) d_V_treeFor_19 ?_
        refine lv_if_eq (tgt := 35) hx hb d_V_treeFor_22 (by decide) (fun _ => ?_) (fun c22 => absurd c22 (by decide))
        refine lv_null hx hb d_V_treeFor_35 ?_
        exact z_aretR hx hb hr hlocks d_V_treeFor_36 (Or.inl ⟨_, rfl⟩) (Or.inl rfl) (Or.inl ⟨rfl, by unfold aTK; rw [hr10, hr5]; dsimp only; rw [decide_eq_false (by have h9 := hc9; simp only [wty] at h9; omega)]; rfl⟩)
      | pow c8 t8 => exact absurd hc9.1 (by decide)
abbrev b_V_placeOf : ByteArray := prog_1_method_50_code
abbrev y_V_placeOf : MethodName := ⟨"ValueTrees", "placeOf", "(LValueTrees$Tree;LValueTrees$Value;)I"⟩
abbrev w_V_placeOf : List Cond := .code y_V_placeOf b_V_placeOf 3 (Option.some .int) :: gt
theorem hd_V_placeOf : (y_V_placeOf).cls ≠ "java/lang/invoke/MethodHandle" ∧ (y_V_placeOf).cls ≠ "java/lang/invoke/VarHandle" ∧ (parseMethodDescriptor (y_V_placeOf).desc).map (fun d => d.parameters.length) = some 2 := by decide +kernel
theorem d_V_placeOf_0 : decode b_V_placeOf 0 = .ok (.iconst 0, 1) := by decide +kernel
theorem d_V_placeOf_1 : decode b_V_placeOf 1 = .ok (.istore_n 2, 1) := by decide +kernel
theorem d_V_placeOf_2 : decode b_V_placeOf 2 = .ok (.iload_n 2, 1) := by decide +kernel
theorem d_V_placeOf_3 : decode b_V_placeOf 3 = .ok (.aload_n 0, 1) := by decide +kernel
theorem d_V_placeOf_4 : decode b_V_placeOf 4 = .ok (.getfield 196, 3) := by decide +kernel
theorem d_V_placeOf_7 : decode b_V_placeOf 7 = .ok (.arraylength, 1) := by decide +kernel
theorem d_V_placeOf_8 : decode b_V_placeOf 8 = .ok (.if_icmp .ge 26, 3) := by decide +kernel
theorem d_V_placeOf_11 : decode b_V_placeOf 11 = .ok (.aload_n 0, 1) := by decide +kernel
theorem d_V_placeOf_12 : decode b_V_placeOf 12 = .ok (.getfield 196, 3) := by decide +kernel
theorem d_V_placeOf_15 : decode b_V_placeOf 15 = .ok (.iload_n 2, 1) := by decide +kernel
theorem d_V_placeOf_16 : decode b_V_placeOf 16 = .ok (.aaload, 1) := by decide +kernel
theorem d_V_placeOf_17 : decode b_V_placeOf 17 = .ok (.getfield 203, 3) := by decide +kernel
theorem d_V_placeOf_20 : decode b_V_placeOf 20 = .ok (.aload_n 1, 1) := by decide +kernel
theorem d_V_placeOf_21 : decode b_V_placeOf 21 = .ok (.iconst 0, 1) := by decide +kernel
theorem d_V_placeOf_22 : decode b_V_placeOf 22 = .ok (.invokestatic 222, 3) := by decide +kernel
theorem d_V_placeOf_25 : decode b_V_placeOf 25 = .ok (.ifCond .ge 9, 3) := by decide +kernel
theorem d_V_placeOf_28 : decode b_V_placeOf 28 = .ok (.iinc 2 1, 3) := by decide +kernel
theorem d_V_placeOf_31 : decode b_V_placeOf 31 = .ok (.goto (-29), 3) := by decide +kernel
theorem d_V_placeOf_34 : decode b_V_placeOf 34 = .ok (.iload_n 2, 1) := by decide +kernel
theorem d_V_placeOf_35 : decode b_V_placeOf 35 = .ok (.ireturn, 1) := by decide +kernel
set_option maxHeartbeats 4000000 in
set_option maxRecDepth 100000 in
theorem c_V_placeOf (l : Launch) (D : va_G) (dT : Nat → ClassId) (H : Heap) (Bq : Nat → Prop) (tb : Nat → TR) (tc : Nat) (hO : tOK tb tc) (a b : Nat) (ch kv : VT) (t : Nat) (htl : t < tc) (hwd : tW (tb t) = 12 ∨ tW (tb t) = 15 ∨ tW (tb t) = 16) (hwc : wty tb ch (cmd tb t) t) (hwk : wty tb kv 0 (lt_ tb t)) (hra : rv D dT Bq H (.pow (.neg ch) t) a) (hrk : rv D dT Bq H kv b) (hcl : (cs ch).length ≤ 160) : Met l y_V_placeOf w_V_placeOf ({ frames := 45, cells := 0, slots := 0, locals := 1750 }) (z_P D dT [.ref a, .ref b] H) (z_R (fun v => v = .int (nI (clen (prc ch kv))))) 0 0 (fun _ => False) := by
  obtain ⟨ea, fe, oa, hna, oe, hne, hch⟩ := rv_neg.mp hra
  have htc := hO.1
  have hcle := clen_le hwc
  have hlt := (tl_some hO htl (by omega)).2.1
  have hcmp := tree_cmp hO htl hwd
  refine Met.ofW (cc := b_V_placeOf) (maxL := 3) (ret := (Option.some .int)) (by decide) rfl ?_
  intro p e s m args below meth c s₁ B hml hv
  obtain ⟨rfl, rfl, hK⟩ := hv
  have hx := B.exec
  have hb := B.bytes
  have hr := B.returns
  have hts := atoms_spec (ws := w_V_placeOf) B.pre
  have ht : ∀ w9 ∈ gt, w9.before [.ref a, .ref b].toArray s = true := fun w9 h => hts w9 (List.mem_cons_of_mem _ h)
  have hown : s.vm.findClass "ValueTrees" = some m.cls := findClass_of_methodNamed B.named
  have hlocks := B.notSynchronized
  have hl := lv_entry ([.ref a, .ref b]) (n := 3) (Nat.le_of_ble_eq_true rfl)
  rw [lg_entry_eq]
  generalize (lg_sl ([.ref a, .ref b]) ++ List.replicate (3 - (lg_sl ([.ref a, .ref b])).length) Slot.unset).toArray = ls at hl ⊢
  have hl : lv_has ls 3 [(0, .ref a), (1, .ref b)] := hl
  refine lv_iconst (v := 0) hx hb d_V_placeOf_0 (by decide) ?_
  refine lv_istore_n (lv' := [(2, .int 0), (0, .ref a), (1, .ref b)]) hx hb d_V_placeOf_1 rfl hl (by decide) rfl (fun ls hl => ?_)
  have loop1 : ∀ (n29 : Nat) (i : Nat) (rem : VT), (wty tb rem (cmd tb t) t) → (rq D dT Bq s.heap rem 1 t i fe) → (clen ch = i + clen rem) → (clen (prc ch kv) = i + clen (prc rem kv)) → ((cs rem).length ≤ 160) → clen rem < n29 → ∀ (ls : Array Slot), lv_has ls 3 [(2, .int (nI i)), (0, .ref a), (1, .ref b)] → W p l e (headSpec w_V_placeOf ({ frames := 45, cells := 0, slots := 0, locals := 1750 })).room s m [.ref a, .ref b].toArray below meth c s.heap [] 0 0 (MQ below (z_R (fun v => v = .int (nI (clen (prc ch kv))))) [.ref a, .ref b].toArray s 0 0 (fun _ => False)) (F0 m 2 ls []) := by
    intro n29
    induction n29 with
    | zero =>
      intro i rem hwr hrr hci hpi hcr h29
      exact absurd h29 (Nat.not_lt_zero _)
    | succ n29 ih2 =>
      intro i rem hwr hrr hci hpi hcr h29  ls hl
      refine lv_iload_n hx hb d_V_placeOf_2 rfl (lv_at hl 0 rfl) ?_
      refine lv_aload_n hx hb d_V_placeOf_3 rfl (lv_at hl 1 rfl) ?_
      refine va_get (D := D) (ci := 7) (v := .ref ea) (C := "ValueTrees$Tree") (T := T_Tree) (N := 3) hx hb ht in_Tree hown hK.1 (z_1 oa) 0 rfl rfl 2 (by decide) (ht _ q358) (fun _ h9 => h9) rfl d_V_placeOf_4 ?_
      refine z_alen hx hb hK oe rfl d_V_placeOf_7 ?_
      refine lv_icmp_ge (tgt := 34) hx hb d_V_placeOf_8 (by decide) (fun c2 => ?_) (fun c2 => ?_)
      · have nc2 : (clen ch) ≤ i := (nI_leI (a := (clen ch)) (b := i) (by omega) (by omega)).mp c2
        refine lv_iload_n hx hb d_V_placeOf_34 rfl (lv_at hl 0 rfl) ?_
        exact z_iretR hx hb hr hlocks d_V_placeOf_35 (by have h9 : clen rem = 0 := (by omega); have h8 := clen_two rem kv; rw [hpi, show i + clen (prc rem kv) = i by omega])
      · have nc2 : ¬ (clen ch) ≤ i := fun h9 => c2 ((nI_leI (a := (clen ch)) (b := i) (by omega) (by omega)).mpr h9)
        obtain ⟨q9, rfl⟩ | ⟨e9, r9, rfl, hwe9, hwr9⟩ := ch_cases hwr
        · exfalso; have h9 : clen ch = i + 0 := hci; omega
        · obtain ⟨b9, hfb9, hrb9, hrr9⟩ := rc_mul.mp hrr
          have hci : clen ch = i + (clen r9 + 1) := hci
          have hl9 : (cs (.mul e9 r9)).length = (eb e9).length + (cs r9).length := by rw [cs_mul, List.length_append]
          obtain ⟨ka9, vv9, ob9, hnb9, hwk9, hrk9, hvv9⟩ := re_at hwe9 hrb9
          have hkl9 := ky_len e9
          refine lv_aload_n hx hb d_V_placeOf_11 rfl (lv_at hl 1 rfl) ?_
          refine va_get (D := D) (ci := 7) (v := .ref ea) (C := "ValueTrees$Tree") (T := T_Tree) (N := 3) hx hb ht in_Tree hown hK.1 (z_1 oa) 0 rfl rfl 2 (by decide) (ht _ q358) (fun _ h9 => h9) rfl d_V_placeOf_12 ?_
          refine lv_iload_n hx hb d_V_placeOf_15 rfl (lv_at hl 0 rfl) ?_
          refine z_aald (v := .ref b9) hx hb hK oe rfl i rfl (by omega) (by omega) (by rw [hfb9]; rfl) d_V_placeOf_16 ?_
          refine va_get (D := D) (ci := 8) (v := .ref ka9) (C := "ValueTrees$Entry") (T := T_Entry) (N := 3) hx hb ht in_Entry hown hK.1 (z_1 ob9) 0 rfl rfl 0 (by decide) (ht _ q426) (fun _ h9 => h9) rfl d_V_placeOf_17 ?_
          refine lv_aload_n hx hb d_V_placeOf_20 rfl (lv_at hl 2 rfl) ?_
          refine lv_iconst (v := 0) hx hb d_V_placeOf_21 (by decide) ?_
          refine z_callR (va_runS (As := [.ref ka9, .ref b, .int 0]) (rest := []) ⟨hx, hb, hml, hown, hts⟩ (c_V_order l D dT _ Bq tb tc hO 40 0 (lt_ tb t) (kyOf e9) kv ka9 b (by omega) hcmp hwk9 hwk hrk9 hrk (by omega) (by decide)) ⟨callB_of 3 hts (gI gd_up gd_c q446) rfl rfl rfl (ht _ q1) (ht _ q444) hd_V_order ⟨Nat.le_of_ble_eq_true rfl, Nat.le_of_ble_eq_true rfl⟩, ht _ q445⟩ (z_preS hK) rfl rfl hl.1 rfl (lv_room (Nat.le_of_ble_eq_true rfl)) d_V_placeOf_22 ⟨Nat.zero_le _, Nat.zero_le _⟩) (fun v4 hv3 => ?_)
          subst hv3
          refine lv_if_ge (tgt := 34) hx hb d_V_placeOf_25 (by decide) (fun c5 => ?_) (fun c5 => ?_)
          · refine lv_iload_n hx hb d_V_placeOf_34 rfl (lv_at hl 0 rfl) ?_
            exact z_iretR hx hb hr hlocks d_V_placeOf_35 (by rw [hpi, (prc_ge (fun h9 => absurd h9 (Int32.not_lt.mpr c5))).1]; rfl)
          · refine lv_iinc (v := (nI (i + 1))) (lv' := [(2, .int (nI (i + 1))), (0, .ref a), (1, .ref b)]) hx hb d_V_placeOf_28 hl (k := 0) rfl (nI_1 i) (by decide) rfl (fun ls hl => ?_)
            refine lv_goto (tgt := 2) hx hb d_V_placeOf_31 (by decide) ?_
            exact ih2 (i + 1) r9 hwr9 hrr9 (by omega) (by rw [hpi, (prc_lt (Int32.not_le.mp c5)).1]; show i + (clen (prc r9 kv) + 1) = _; omega) (by omega) (by omega)  ls (lv_sub hl [0, 1, 2] rfl)
  exact loop1 (clen ch + 1) 0 ch hwc hch (by omega) (by omega) hcl (by omega)  ls (lv_sub hl [0, 1, 2] rfl)
abbrev b_V_isAt : ByteArray := prog_1_method_51_code
abbrev y_V_isAt : MethodName := ⟨"ValueTrees", "isAt", "(LValueTrees$Tree;ILValueTrees$Value;)Z"⟩
abbrev w_V_isAt : List Cond := .code y_V_isAt b_V_isAt 3 (Option.some .boolean) :: gt
theorem hd_V_isAt : (y_V_isAt).cls ≠ "java/lang/invoke/MethodHandle" ∧ (y_V_isAt).cls ≠ "java/lang/invoke/VarHandle" ∧ (parseMethodDescriptor (y_V_isAt).desc).map (fun d => d.parameters.length) = some 3 := by decide +kernel
theorem d_V_isAt_0 : decode b_V_isAt 0 = .ok (.iload_n 1, 1) := by decide +kernel
theorem d_V_isAt_1 : decode b_V_isAt 1 = .ok (.ifCond .lt 33, 3) := by decide +kernel
theorem d_V_isAt_4 : decode b_V_isAt 4 = .ok (.iload_n 1, 1) := by decide +kernel
theorem d_V_isAt_5 : decode b_V_isAt 5 = .ok (.aload_n 0, 1) := by decide +kernel
theorem d_V_isAt_6 : decode b_V_isAt 6 = .ok (.getfield 196, 3) := by decide +kernel
theorem d_V_isAt_9 : decode b_V_isAt 9 = .ok (.arraylength, 1) := by decide +kernel
theorem d_V_isAt_10 : decode b_V_isAt 10 = .ok (.if_icmp .ge 24, 3) := by decide +kernel
theorem d_V_isAt_13 : decode b_V_isAt 13 = .ok (.aload_n 0, 1) := by decide +kernel
theorem d_V_isAt_14 : decode b_V_isAt 14 = .ok (.getfield 196, 3) := by decide +kernel
theorem d_V_isAt_17 : decode b_V_isAt 17 = .ok (.iload_n 1, 1) := by decide +kernel
theorem d_V_isAt_18 : decode b_V_isAt 18 = .ok (.aaload, 1) := by decide +kernel
theorem d_V_isAt_19 : decode b_V_isAt 19 = .ok (.getfield 203, 3) := by decide +kernel
theorem d_V_isAt_22 : decode b_V_isAt 22 = .ok (.aload_n 2, 1) := by decide +kernel
theorem d_V_isAt_23 : decode b_V_isAt 23 = .ok (.iconst 0, 1) := by decide +kernel
theorem d_V_isAt_24 : decode b_V_isAt 24 = .ok (.invokestatic 222, 3) := by decide +kernel
theorem d_V_isAt_27 : decode b_V_isAt 27 = .ok (.ifCond .ne 7, 3) := by decide +kernel
theorem d_V_isAt_30 : decode b_V_isAt 30 = .ok (.iconst 1, 1) := by decide +kernel
theorem d_V_isAt_31 : decode b_V_isAt 31 = .ok (.goto 4, 3) := by decide +kernel
theorem d_V_isAt_34 : decode b_V_isAt 34 = .ok (.iconst 0, 1) := by decide +kernel
theorem d_V_isAt_35 : decode b_V_isAt 35 = .ok (.ireturn, 1) := by decide +kernel
set_option maxHeartbeats 4000000 in
set_option maxRecDepth 100000 in
theorem c_V_isAt (l : Launch) (D : va_G) (dT : Nat → ClassId) (H : Heap) (Bq : Nat → Prop) (tb : Nat → TR) (tc : Nat) (hO : tOK tb tc) (a b : Nat) (ch kv : VT) (t : Nat) (htl : t < tc) (hwd : tW (tb t) = 12 ∨ tW (tb t) = 15 ∨ tW (tb t) = 16) (hwc : wty tb ch (cmd tb t) t) (hwk : wty tb kv 0 (lt_ tb t)) (hra : rv D dT Bq H (.pow (.neg ch) t) a) (hrk : rv D dT Bq H kv b) (hcl : (cs ch).length ≤ 160) : Met l y_V_isAt w_V_isAt ({ frames := 45, cells := 0, slots := 0, locals := 1750 }) (z_P D dT [.ref a, .int (nI (clen (prc ch kv))), .ref b] H) (z_R (fun v => v = .int (if thr (skp ch kv) kv = true then 1 else 0))) 0 0 (fun _ => False) := by
  obtain ⟨ea, fe, oa, hna, oe, hne, hch⟩ := rv_neg.mp hra
  have htc := hO.1
  have hcle := clen_le hwc
  have hlt := (tl_some hO htl (by omega)).2.1
  have hcmp := tree_cmp hO htl hwd
  have hc2 := clen_two ch kv
  refine Met.ofW (cc := b_V_isAt) (maxL := 3) (ret := (Option.some .boolean)) (by decide) rfl ?_
  intro p e s m args below meth c s₁ B hml hv
  obtain ⟨rfl, rfl, hK⟩ := hv
  have hx := B.exec
  have hb := B.bytes
  have hr := B.returns
  have hts := atoms_spec (ws := w_V_isAt) B.pre
  have ht : ∀ w9 ∈ gt, w9.before [.ref a, .int (nI (clen (prc ch kv))), .ref b].toArray s = true := fun w9 h => hts w9 (List.mem_cons_of_mem _ h)
  have hown : s.vm.findClass "ValueTrees" = some m.cls := findClass_of_methodNamed B.named
  have hlocks := B.notSynchronized
  have hl := lv_entry ([.ref a, .int (nI (clen (prc ch kv))), .ref b]) (n := 3) (Nat.le_of_ble_eq_true rfl)
  rw [lg_entry_eq]
  generalize (lg_sl ([.ref a, .int (nI (clen (prc ch kv))), .ref b]) ++ List.replicate (3 - (lg_sl ([.ref a, .int (nI (clen (prc ch kv))), .ref b])).length) Slot.unset).toArray = ls at hl ⊢
  have hl : lv_has ls 3 [(0, .ref a), (1, .int (nI (clen (prc ch kv)))), (2, .ref b)] := hl
  refine lv_iload_n hx hb d_V_isAt_0 rfl (lv_at hl 1 rfl) ?_
  refine lv_if_lt (tgt := 34) hx hb d_V_isAt_1 (by decide) (fun c1 => absurd c1 (nI_pos (by omega))) (fun c1 => ?_)
  refine lv_iload_n hx hb d_V_isAt_4 rfl (lv_at hl 1 rfl) ?_
  refine lv_aload_n hx hb d_V_isAt_5 rfl (lv_at hl 0 rfl) ?_
  refine va_get (D := D) (ci := 7) (v := .ref ea) (C := "ValueTrees$Tree") (T := T_Tree) (N := 3) hx hb ht in_Tree hown hK.1 (z_1 oa) 0 rfl rfl 2 (by decide) (ht _ q358) (fun _ h9 => h9) rfl d_V_isAt_6 ?_
  refine z_alen hx hb hK oe rfl d_V_isAt_9 ?_
  refine lv_icmp_ge (tgt := 34) hx hb d_V_isAt_10 (by decide) (fun c2 => ?_) (fun c2 => ?_)
  · have nc2 : (clen ch) ≤ (clen (prc ch kv)) := (nI_leI (a := (clen ch)) (b := (clen (prc ch kv))) (by omega) (by omega)).mp c2
    refine lv_iconst (v := 0) hx hb d_V_isAt_34 (by decide) ?_
    exact z_zretR hx hb hr hlocks d_V_isAt_35 rfl (by rw [if_neg (fun h9 => absurd (thr_lt h9) (by omega))])
  · have nc2 : ¬ (clen ch) ≤ (clen (prc ch kv)) := fun h9 => c2 ((nI_leI (a := (clen ch)) (b := (clen (prc ch kv))) (by omega) (by omega)).mpr h9)
    have hpl : clen (prc ch kv) < clen ch := by omega
    obtain ⟨e9, r9, hsk, hn9, hwe9, hel9, hwr9⟩ := at_place (k := kv) hwc hpl
    obtain ⟨b9, hfb9, hrb9⟩ := rc_nth hch hn9
    rw [Nat.zero_add] at hfb9
    obtain ⟨ka9, vv9, ob9, hnb9, hwk9, hrk9, hvv9⟩ := re_at hwe9 hrb9
    have hkl9 := ky_len e9
    refine lv_aload_n hx hb d_V_isAt_13 rfl (lv_at hl 0 rfl) ?_
    refine va_get (D := D) (ci := 7) (v := .ref ea) (C := "ValueTrees$Tree") (T := T_Tree) (N := 3) hx hb ht in_Tree hown hK.1 (z_1 oa) 0 rfl rfl 2 (by decide) (ht _ q358) (fun _ h9 => h9) rfl d_V_isAt_14 ?_
    refine lv_iload_n hx hb d_V_isAt_17 rfl (lv_at hl 1 rfl) ?_
    refine z_aald (v := .ref b9) hx hb hK oe rfl (clen (prc ch kv)) rfl (by omega) (by omega) (by rw [hfb9]; rfl) d_V_isAt_18 ?_
    refine va_get (D := D) (ci := 8) (v := .ref ka9) (C := "ValueTrees$Entry") (T := T_Entry) (N := 3) hx hb ht in_Entry hown hK.1 (z_1 ob9) 0 rfl rfl 0 (by decide) (ht _ q426) (fun _ h9 => h9) rfl d_V_isAt_19 ?_
    refine lv_aload_n hx hb d_V_isAt_22 rfl (lv_at hl 2 rfl) ?_
    refine lv_iconst (v := 0) hx hb d_V_isAt_23 (by decide) ?_
    refine z_callR (va_runS (As := [.ref ka9, .ref b, .int 0]) (rest := []) ⟨hx, hb, hml, hown, hts⟩ (c_V_order l D dT _ Bq tb tc hO 40 0 (lt_ tb t) (kyOf e9) kv ka9 b (by omega) hcmp hwk9 hwk hrk9 hrk (by omega) (by decide)) ⟨callB_of 3 hts (gI gd_up gd_c q446) rfl rfl rfl (ht _ q1) (ht _ q444) hd_V_order ⟨Nat.le_of_ble_eq_true rfl, Nat.le_of_ble_eq_true rfl⟩, ht _ q445⟩ (z_preS hK) rfl rfl hl.1 rfl (lv_room (Nat.le_of_ble_eq_true rfl)) d_V_isAt_24 ⟨Nat.zero_le _, Nat.zero_le _⟩) (fun v4 hv3 => ?_)
    subst hv3
    refine lv_if_ne (tgt := 34) hx hb d_V_isAt_27 (by decide) (fun c5 => ?_) (fun c5 => ?_)
    · refine lv_iconst (v := 0) hx hb d_V_isAt_34 (by decide) ?_
      exact z_zretR hx hb hr hlocks d_V_isAt_35 rfl (by rw [if_neg (by rw [hsk]; intro h9; exact c5 (of_decide_eq_true h9))])
    · refine lv_iconst (v := 1) hx hb d_V_isAt_30 (by decide) ?_
      refine lv_goto (tgt := 35) hx hb d_V_isAt_31 (by decide) ?_
      exact z_zretR hx hb hr hlocks d_V_isAt_35 rfl (by rw [if_pos (by rw [hsk]; exact decide_eq_true c5)])
abbrev b_V_has : ByteArray := prog_1_method_26_code
abbrev y_V_has : MethodName := ⟨"ValueTrees", "has", "(II)I"⟩
abbrev w_V_has : List Cond := .code y_V_has b_V_has 5 (Option.some .int) :: gt
theorem hd_V_has : (y_V_has).cls ≠ "java/lang/invoke/MethodHandle" ∧ (y_V_has).cls ≠ "java/lang/invoke/VarHandle" ∧ (parseMethodDescriptor (y_V_has).desc).map (fun d => d.parameters.length) = some 2 := by decide +kernel
theorem d_V_has_0 : decode b_V_has 0 = .ok (.aload_n 0, 1) := by decide +kernel
theorem d_V_has_1 : decode b_V_has 1 = .ok (.iload_n 1, 1) := by decide +kernel
theorem d_V_has_2 : decode b_V_has 2 = .ok (.iload_n 2, 1) := by decide +kernel
theorem d_V_has_3 : decode b_V_has 3 = .ok (.invokevirtual 150, 3) := by decide +kernel
theorem d_V_has_6 : decode b_V_has 6 = .ok (.astore_n 3, 1) := by decide +kernel
theorem d_V_has_7 : decode b_V_has 7 = .ok (.aload_n 0, 1) := by decide +kernel
theorem d_V_has_8 : decode b_V_has 8 = .ok (.iload_n 2, 1) := by decide +kernel
theorem d_V_has_9 : decode b_V_has 9 = .ok (.invokevirtual 77, 3) := by decide +kernel
theorem d_V_has_12 : decode b_V_has 12 = .ok (.astore 4, 2) := by decide +kernel
theorem d_V_has_14 : decode b_V_has 14 = .ok (.aload_n 3, 1) := by decide +kernel
theorem d_V_has_15 : decode b_V_has 15 = .ok (.ifnull 8, 3) := by decide +kernel
theorem d_V_has_18 : decode b_V_has 18 = .ok (.aload 4, 2) := by decide +kernel
theorem d_V_has_20 : decode b_V_has 20 = .ok (.ifnonnull 5, 3) := by decide +kernel
theorem d_V_has_23 : decode b_V_has 23 = .ok (.iconst (-1), 1) := by decide +kernel
theorem d_V_has_24 : decode b_V_has 24 = .ok (.ireturn, 1) := by decide +kernel
theorem d_V_has_25 : decode b_V_has 25 = .ok (.aload_n 3, 1) := by decide +kernel
theorem d_V_has_26 : decode b_V_has 26 = .ok (.aload_n 3, 1) := by decide +kernel
theorem d_V_has_27 : decode b_V_has 27 = .ok (.aload 4, 2) := by decide +kernel
theorem d_V_has_29 : decode b_V_has 29 = .ok (.invokestatic 165, 3) := by decide +kernel
theorem d_V_has_32 : decode b_V_has 32 = .ok (.aload 4, 2) := by decide +kernel
theorem d_V_has_34 : decode b_V_has 34 = .ok (.invokestatic 169, 3) := by decide +kernel
theorem d_V_has_37 : decode b_V_has 37 = .ok (.ifCond .eq 7, 3) := by decide +kernel
theorem d_V_has_40 : decode b_V_has 40 = .ok (.iconst 1, 1) := by decide +kernel
theorem d_V_has_41 : decode b_V_has 41 = .ok (.goto 4, 3) := by decide +kernel
theorem d_V_has_44 : decode b_V_has 44 = .ok (.iconst 0, 1) := by decide +kernel
theorem d_V_has_45 : decode b_V_has 45 = .ok (.ireturn, 1) := by decide +kernel
set_option maxHeartbeats 4000000 in
set_option maxRecDepth 100000 in
theorem p_V_has (l : Launch) (D : va_G) (dT : Nat → ClassId) (H : Heap) (Bq : Nat → Prop) (vv rg li ed : Nat) (tb : Nat → TR) (tc : Nat) (RV : Nat → Option VT) (hC : cI D dT Bq vv rg li ed tb tc RV H) (hV : vOK tb tc RV) (tr ky : Int32) : Met l y_V_has w_V_has ({ frames := 46, cells := 0, slots := 0, locals := 1772 }) (z_P D dT [.ref vv, .int tr, .int ky] H) (z_R (fun v => v = .int (a_has tb RV tr ky))) 0 0 (fun _ => False) := by
  obtain ⟨⟨hBs, hBr, hBl, hBe, hBv, hrl, hre, hle⟩, hvv, hCR, hCT⟩ := id hC
  have hO := hV.1
  have htc := hO.1
  have htc10 := hO.2.1
  refine Met.ofW (cc := b_V_has) (maxL := 5) (ret := (Option.some .int)) (by decide) rfl ?_
  intro p e s m args below meth c s₁ B hml hv
  obtain ⟨rfl, rfl, hK⟩ := hv
  have hx := B.exec
  have hb := B.bytes
  have hr := B.returns
  have hts := atoms_spec (ws := w_V_has) B.pre
  have ht : ∀ w9 ∈ gt, w9.before [.ref vv, .int tr, .int ky].toArray s = true := fun w9 h => hts w9 (List.mem_cons_of_mem _ h)
  have hown : s.vm.findClass "ValueTrees" = some m.cls := findClass_of_methodNamed B.named
  have hlocks := B.notSynchronized
  have hl := lv_entry ([.ref vv, .int tr, .int ky]) (n := 5) (Nat.le_of_ble_eq_true rfl)
  rw [lg_entry_eq]
  generalize (lg_sl ([.ref vv, .int tr, .int ky]) ++ List.replicate (5 - (lg_sl ([.ref vv, .int tr, .int ky])).length) Slot.unset).toArray = ls at hl ⊢
  have hl : lv_has ls 5 [(0, .ref vv), (1, .int tr), (2, .int ky)] := hl
  refine lv_aload_n hx hb d_V_has_0 rfl (lv_at hl 0 rfl) ?_
  refine lv_iload_n hx hb d_V_has_1 rfl (lv_at hl 1 rfl) ?_
  refine lv_iload_n hx hb d_V_has_2 rfl (lv_at hl 2 rfl) ?_
  refine z_callR (va_runV (C := "ValueTrees") (As := [.int tr, .int ky]) (rest := []) ⟨hx, hb, hml, hown, hts⟩ (c_V_treeFor l D dT _ Bq vv rg li ed tb tc RV hC hV tr ky) ⟨callB_of 2 hts (gI gd_up gd_c q419) rfl rfl rfl (ht _ q1) (ht _ q416) hd_V_treeFor ⟨Nat.le_of_ble_eq_true rfl, Nat.le_of_ble_eq_true rfl⟩, ht _ q418, ht _ qs12⟩ (z_preV hK (va_recv hK.1 (z_1 hvv) (ci := 0) (q0 := 0) rfl rfl)) rfl rfl hl.1 rfl (lv_room (Nat.le_of_ble_eq_true rfl)) d_V_has_3 ⟨Nat.zero_le _, Nat.zero_le _⟩) (fun v2 hv1 => ?_)
  rcases hv1 with ⟨rfl, haf⟩ | ⟨at9, ch, tt, kv, rfl, hat, hrt, hrk, hra⟩
  · refine lv_astore_nN (lv' := [(3, .null), (0, .ref vv), (1, .int tr), (2, .int ky)]) hx hb d_V_has_6 rfl hl (by decide) rfl (fun ls hl => ?_)
    refine lv_aload_n hx hb d_V_has_7 rfl (lv_at hl 1 rfl) ?_
    refine lv_iload_n hx hb d_V_has_8 rfl (lv_at hl 3 rfl) ?_
    refine z_callR (va_runV (C := "ValueTrees") (As := [.int ky]) (rest := []) ⟨hx, hb, hml, hown, hts⟩ (c_V_held l D dT _ Bq vv rg li ed tb tc RV hC hV ky) ⟨callB_of 1 hts (gI gd_up gd_c q275) rfl rfl rfl (ht _ q1) (ht _ q272) hd_V_held ⟨Nat.le_of_ble_eq_true rfl, Nat.le_of_ble_eq_true rfl⟩, ht _ q274, ht _ qs7⟩ (z_preV hK (va_recv hK.1 (z_1 hvv) (ci := 0) (q0 := 0) rfl rfl)) rfl rfl hl.1 rfl (lv_room (Nat.le_of_ble_eq_true rfl)) d_V_has_9 ⟨Nat.zero_le _, Nat.zero_le _⟩) (fun v4 hv3 => ?_)
    rcases hv3 with ⟨rfl, hr7⟩ | ⟨a5, v6, rfl, hr7, hq6⟩
    · refine lv_astoreN (lv' := [(4, .null), (3, .null), (0, .ref vv), (1, .int tr), (2, .int ky)]) hx hb d_V_has_12 hl (by decide) rfl (fun ls hl => ?_)
      refine lv_aload_nN hx hb d_V_has_14 rfl (lv_at hl 1 rfl) ?_
      refine lv_ifnullN (tgt := 23) hx hb d_V_has_15 (by decide) ?_
      refine lv_iconst (v := (-1)) hx hb d_V_has_23 (by decide) ?_
      exact z_iretR hx hb hr hlocks d_V_has_24 (by unfold a_has; rw [if_neg (by rw [haf]; decide)])
    · obtain ⟨ht6, hw6, hl6⟩ := vOK_get hV hr7
      obtain ⟨hh6, hnb6⟩ := rv_hd hw6 hq6
      refine lv_astore (lv' := [(4, .ref a5), (3, .null), (0, .ref vv), (1, .int tr), (2, .int ky)]) hx hb d_V_has_12 hl (by decide) rfl (fun ls hl => ?_)
      refine lv_aload_nN hx hb d_V_has_14 rfl (lv_at hl 1 rfl) ?_
      refine lv_ifnullN (tgt := 23) hx hb d_V_has_15 (by decide) ?_
      refine lv_iconst (v := (-1)) hx hb d_V_has_23 (by decide) ?_
      exact z_iretR hx hb hr hlocks d_V_has_24 (by unfold a_has; rw [if_neg (by rw [haf]; decide)])
  · obtain ⟨htl, hwd, hwc, hwk, hlc, hlk⟩ := tf_facts hV hat hrt hrk
    obtain ⟨ea, fe, oa, hna, oe, hne, hch⟩ := rv_neg.mp hra
    have hcle := clen_le hwc
    have hlt := (tl_some hO htl (by omega)).2.1
    refine lv_astore_n (lv' := [(3, .ref at9), (0, .ref vv), (1, .int tr), (2, .int ky)]) hx hb d_V_has_6 rfl hl (by decide) rfl (fun ls hl => ?_)
    refine lv_aload_n hx hb d_V_has_7 rfl (lv_at hl 1 rfl) ?_
    refine lv_iload_n hx hb d_V_has_8 rfl (lv_at hl 3 rfl) ?_
    refine z_callR (va_runV (C := "ValueTrees") (As := [.int ky]) (rest := []) ⟨hx, hb, hml, hown, hts⟩ (c_V_held l D dT _ Bq vv rg li ed tb tc RV hC hV ky) ⟨callB_of 1 hts (gI gd_up gd_c q275) rfl rfl rfl (ht _ q1) (ht _ q272) hd_V_held ⟨Nat.le_of_ble_eq_true rfl, Nat.le_of_ble_eq_true rfl⟩, ht _ q274, ht _ qs7⟩ (z_preV hK (va_recv hK.1 (z_1 hvv) (ci := 0) (q0 := 0) rfl rfl)) rfl rfl hl.1 rfl (lv_room (Nat.le_of_ble_eq_true rfl)) d_V_has_9 ⟨Nat.zero_le _, Nat.zero_le _⟩) (fun v9 hv8 => ?_)
    rcases hv8 with ⟨rfl, hr12⟩ | ⟨a10, v11, rfl, hr12, hq11⟩
    · rw [hrk] at hr12; cases hr12
    · have ev11 : kv = v11 := Option.some.inj (hrk.symm.trans hr12)
      subst ev11
      obtain ⟨ht11, hw11, hl11⟩ := vOK_get hV hr12
      obtain ⟨hh11, hnb11⟩ := rv_hd hw11 hq11
      refine lv_astore (lv' := [(4, .ref a10), (3, .ref at9), (0, .ref vv), (1, .int tr), (2, .int ky)]) hx hb d_V_has_12 hl (by decide) rfl (fun ls hl => ?_)
      refine lv_aload_n hx hb d_V_has_14 rfl (lv_at hl 1 rfl) ?_
      refine lv_ifnull hx hb d_V_has_15 ?_
      refine lv_aload hx hb d_V_has_18 (lv_at hl 0 rfl) ?_
      refine lv_ifnonnull (tgt := 25) hx hb d_V_has_20 (by decide) ?_
      refine lv_aload_n hx hb d_V_has_25 rfl (lv_at hl 1 rfl) ?_
      refine lv_aload_n hx hb d_V_has_26 rfl (lv_at hl 1 rfl) ?_
      refine lv_aload hx hb d_V_has_27 (lv_at hl 0 rfl) ?_
      refine z_callR (va_runS (As := [.ref at9, .ref a10]) (rest := [.ref at9]) ⟨hx, hb, hml, hown, hts⟩ (c_V_placeOf l D dT _ Bq tb tc hO at9 a10 ch kv tt htl hwd hwc hwk hra hq11 (by omega)) ⟨callB_of 2 hts (gI gd_up gd_c q443) rfl rfl rfl (ht _ q1) (ht _ q441) hd_V_placeOf ⟨Nat.le_of_ble_eq_true rfl, Nat.le_of_ble_eq_true rfl⟩, ht _ q442⟩ (z_preS hK) rfl rfl hl.1 rfl (lv_room (Nat.le_of_ble_eq_true rfl)) d_V_has_29 ⟨Nat.zero_le _, Nat.zero_le _⟩) (fun v14 hv13 => ?_)
      subst hv13
      refine lv_aload hx hb d_V_has_32 (lv_at hl 0 rfl) ?_
      refine z_callR (va_runS (As := [.ref at9, .int (nI (clen (prc ch kv))), .ref a10]) (rest := []) ⟨hx, hb, hml, hown, hts⟩ (c_V_isAt l D dT _ Bq tb tc hO at9 a10 ch kv tt htl hwd hwc hwk hra hq11 (by omega)) ⟨callB_of 3 hts (gI gd_up gd_c q466) rfl rfl rfl (ht _ q1) (ht _ q464) hd_V_isAt ⟨Nat.le_of_ble_eq_true rfl, Nat.le_of_ble_eq_true rfl⟩, ht _ q465⟩ (z_preS hK) rfl rfl hl.1 rfl (lv_room (Nat.le_of_ble_eq_true rfl)) d_V_has_34 ⟨Nat.zero_le _, Nat.zero_le _⟩) (fun v16 hv15 => ?_)
      have hv15 : v16 = .int (if thr (skp ch kv) kv = true then 1 else 0) := hv15
      rcases Classical.em (thr (skp ch kv) kv = true) with hth | hth
      · rw [if_pos hth] at hv15
        subst hv15
        refine lv_if_eq (tgt := 44) hx hb d_V_has_37 (by decide) (fun c18 => absurd c18 (by decide)) (fun _ => ?_)
        refine lv_iconst (v := 1) hx hb d_V_has_40 (by decide) ?_
        refine lv_goto (tgt := 45) hx hb d_V_has_41 (by decide) ?_
        exact z_iretR hx hb hr hlocks d_V_has_45 (by unfold a_has; rw [if_pos hat, hrt, hrk]; show _ = Value.int (if thr (skp ch kv) kv = true then 1 else 0); rw [if_pos hth])
      · rw [if_neg hth] at hv15
        subst hv15
        refine lv_if_eq (tgt := 44) hx hb d_V_has_37 (by decide) (fun _ => ?_) (fun c19 => absurd c19 (by decide))
        refine lv_iconst (v := 0) hx hb d_V_has_44 (by decide) ?_
        exact z_iretR hx hb hr hlocks d_V_has_45 (by unfold a_has; rw [if_pos hat, hrt, hrk]; show _ = Value.int (if thr (skp ch kv) kv = true then 1 else 0); rw [if_neg hth])
abbrev b_V_compare : ByteArray := prog_1_method_27_code
abbrev y_V_compare : MethodName := ⟨"ValueTrees", "compare", "(II)I"⟩
abbrev w_V_compare : List Cond := .code y_V_compare b_V_compare 6 (Option.some .int) :: gt
theorem hd_V_compare : (y_V_compare).cls ≠ "java/lang/invoke/MethodHandle" ∧ (y_V_compare).cls ≠ "java/lang/invoke/VarHandle" ∧ (parseMethodDescriptor (y_V_compare).desc).map (fun d => d.parameters.length) = some 2 := by decide +kernel
theorem d_V_compare_0 : decode b_V_compare 0 = .ok (.aload_n 0, 1) := by decide +kernel
theorem d_V_compare_1 : decode b_V_compare 1 = .ok (.iload_n 1, 1) := by decide +kernel
theorem d_V_compare_2 : decode b_V_compare 2 = .ok (.invokevirtual 77, 3) := by decide +kernel
theorem d_V_compare_5 : decode b_V_compare 5 = .ok (.astore_n 3, 1) := by decide +kernel
theorem d_V_compare_6 : decode b_V_compare 6 = .ok (.aload_n 0, 1) := by decide +kernel
theorem d_V_compare_7 : decode b_V_compare 7 = .ok (.iload_n 2, 1) := by decide +kernel
theorem d_V_compare_8 : decode b_V_compare 8 = .ok (.invokevirtual 77, 3) := by decide +kernel
theorem d_V_compare_11 : decode b_V_compare 11 = .ok (.astore 4, 2) := by decide +kernel
theorem d_V_compare_13 : decode b_V_compare 13 = .ok (.aload_n 3, 1) := by decide +kernel
theorem d_V_compare_14 : decode b_V_compare 14 = .ok (.ifnull 20, 3) := by decide +kernel
theorem d_V_compare_17 : decode b_V_compare 17 = .ok (.aload 4, 2) := by decide +kernel
theorem d_V_compare_19 : decode b_V_compare 19 = .ok (.ifnull 15, 3) := by decide +kernel
theorem d_V_compare_22 : decode b_V_compare 22 = .ok (.aload_n 3, 1) := by decide +kernel
theorem d_V_compare_23 : decode b_V_compare 23 = .ok (.getfield 125, 3) := by decide +kernel
theorem d_V_compare_26 : decode b_V_compare 26 = .ok (.aload 4, 2) := by decide +kernel
theorem d_V_compare_28 : decode b_V_compare 28 = .ok (.getfield 125, 3) := by decide +kernel
theorem d_V_compare_31 : decode b_V_compare 31 = .ok (.if_icmp .eq 5, 3) := by decide +kernel
theorem d_V_compare_34 : decode b_V_compare 34 = .ok (.iconst 2, 1) := by decide +kernel
theorem d_V_compare_35 : decode b_V_compare 35 = .ok (.ireturn, 1) := by decide +kernel
theorem d_V_compare_36 : decode b_V_compare 36 = .ok (.aload_n 0, 1) := by decide +kernel
theorem d_V_compare_37 : decode b_V_compare 37 = .ok (.aload_n 3, 1) := by decide +kernel
theorem d_V_compare_38 : decode b_V_compare 38 = .ok (.getfield 125, 3) := by decide +kernel
theorem d_V_compare_41 : decode b_V_compare 41 = .ok (.invokevirtual 43, 3) := by decide +kernel
theorem d_V_compare_44 : decode b_V_compare 44 = .ok (.astore 5, 2) := by decide +kernel
theorem d_V_compare_46 : decode b_V_compare 46 = .ok (.aload 5, 2) := by decide +kernel
theorem d_V_compare_48 : decode b_V_compare 48 = .ok (.ifnull 12, 3) := by decide +kernel
theorem d_V_compare_51 : decode b_V_compare 51 = .ok (.aload 5, 2) := by decide +kernel
theorem d_V_compare_53 : decode b_V_compare 53 = .ok (.iconst 1, 1) := by decide +kernel
theorem d_V_compare_54 : decode b_V_compare 54 = .ok (.invokevirtual 219, 3) := by decide +kernel
theorem d_V_compare_57 : decode b_V_compare 57 = .ok (.ifCond .ne 5, 3) := by decide +kernel
theorem d_V_compare_60 : decode b_V_compare 60 = .ok (.iconst 2, 1) := by decide +kernel
theorem d_V_compare_61 : decode b_V_compare 61 = .ok (.ireturn, 1) := by decide +kernel
theorem d_V_compare_62 : decode b_V_compare 62 = .ok (.aload_n 3, 1) := by decide +kernel
theorem d_V_compare_63 : decode b_V_compare 63 = .ok (.aload 4, 2) := by decide +kernel
theorem d_V_compare_65 : decode b_V_compare 65 = .ok (.iconst 0, 1) := by decide +kernel
theorem d_V_compare_66 : decode b_V_compare 66 = .ok (.invokestatic 222, 3) := by decide +kernel
theorem d_V_compare_69 : decode b_V_compare 69 = .ok (.ireturn, 1) := by decide +kernel
set_option maxHeartbeats 4000000 in
set_option maxRecDepth 100000 in
theorem p_V_compare (l : Launch) (D : va_G) (dT : Nat → ClassId) (H : Heap) (Bq : Nat → Prop) (vv rg li ed : Nat) (tb : Nat → TR) (tc : Nat) (RV : Nat → Option VT) (hC : cI D dT Bq vv rg li ed tb tc RV H) (hV : vOK tb tc RV) (a b : Int32) : Met l y_V_compare w_V_compare ({ frames := 45, cells := 0, slots := 0, locals := 1750 }) (z_P D dT [.ref vv, .int a, .int b] H) (z_R (fun v => v = .int (a_compare tb RV a b))) 0 0 (fun _ => False) := by
  obtain ⟨⟨hBs, hBr, hBl, hBe, hBv, hrl, hre, hle⟩, hvv, hCR, hCT⟩ := id hC
  have hO := hV.1
  have htc := hO.1
  have htc10 := hO.2.1
  refine Met.ofW (cc := b_V_compare) (maxL := 6) (ret := (Option.some .int)) (by decide) rfl ?_
  intro p e s m args below meth c s₁ B hml hv
  obtain ⟨rfl, rfl, hK⟩ := hv
  have hx := B.exec
  have hb := B.bytes
  have hr := B.returns
  have hts := atoms_spec (ws := w_V_compare) B.pre
  have ht : ∀ w9 ∈ gt, w9.before [.ref vv, .int a, .int b].toArray s = true := fun w9 h => hts w9 (List.mem_cons_of_mem _ h)
  have hown : s.vm.findClass "ValueTrees" = some m.cls := findClass_of_methodNamed B.named
  have hlocks := B.notSynchronized
  have hl := lv_entry ([.ref vv, .int a, .int b]) (n := 6) (Nat.le_of_ble_eq_true rfl)
  rw [lg_entry_eq]
  generalize (lg_sl ([.ref vv, .int a, .int b]) ++ List.replicate (6 - (lg_sl ([.ref vv, .int a, .int b])).length) Slot.unset).toArray = ls at hl ⊢
  have hl : lv_has ls 6 [(0, .ref vv), (1, .int a), (2, .int b)] := hl
  refine lv_aload_n hx hb d_V_compare_0 rfl (lv_at hl 0 rfl) ?_
  refine lv_iload_n hx hb d_V_compare_1 rfl (lv_at hl 1 rfl) ?_
  refine z_callR (va_runV (C := "ValueTrees") (As := [.int a]) (rest := []) ⟨hx, hb, hml, hown, hts⟩ (c_V_held l D dT _ Bq vv rg li ed tb tc RV hC hV a) ⟨callB_of 1 hts (gI gd_up gd_c q275) rfl rfl rfl (ht _ q1) (ht _ q272) hd_V_held ⟨Nat.le_of_ble_eq_true rfl, Nat.le_of_ble_eq_true rfl⟩, ht _ q274, ht _ qs7⟩ (z_preV hK (va_recv hK.1 (z_1 hvv) (ci := 0) (q0 := 0) rfl rfl)) rfl rfl hl.1 rfl (lv_room (Nat.le_of_ble_eq_true rfl)) d_V_compare_2 ⟨Nat.zero_le _, Nat.zero_le _⟩) (fun v2 hv1 => ?_)
  rcases hv1 with ⟨rfl, hr5⟩ | ⟨a3, v4, rfl, hr5, hq4⟩
  · refine lv_astore_nN (lv' := [(3, .null), (0, .ref vv), (1, .int a), (2, .int b)]) hx hb d_V_compare_5 rfl hl (by decide) rfl (fun ls hl => ?_)
    refine lv_aload_n hx hb d_V_compare_6 rfl (lv_at hl 1 rfl) ?_
    refine lv_iload_n hx hb d_V_compare_7 rfl (lv_at hl 3 rfl) ?_
    refine z_callR (va_runV (C := "ValueTrees") (As := [.int b]) (rest := []) ⟨hx, hb, hml, hown, hts⟩ (c_V_held l D dT _ Bq vv rg li ed tb tc RV hC hV b) ⟨callB_of 1 hts (gI gd_up gd_c q275) rfl rfl rfl (ht _ q1) (ht _ q272) hd_V_held ⟨Nat.le_of_ble_eq_true rfl, Nat.le_of_ble_eq_true rfl⟩, ht _ q274, ht _ qs7⟩ (z_preV hK (va_recv hK.1 (z_1 hvv) (ci := 0) (q0 := 0) rfl rfl)) rfl rfl hl.1 rfl (lv_room (Nat.le_of_ble_eq_true rfl)) d_V_compare_8 ⟨Nat.zero_le _, Nat.zero_le _⟩) (fun v7 hv6 => ?_)
    rcases hv6 with ⟨rfl, hr10⟩ | ⟨a8, v9, rfl, hr10, hq9⟩
    · refine lv_astoreN (lv' := [(4, .null), (3, .null), (0, .ref vv), (1, .int a), (2, .int b)]) hx hb d_V_compare_11 hl (by decide) rfl (fun ls hl => ?_)
      refine lv_aload_nN hx hb d_V_compare_13 rfl (lv_at hl 1 rfl) ?_
      refine lv_ifnullN (tgt := 34) hx hb d_V_compare_14 (by decide) ?_
      refine lv_iconst (v := 2) hx hb d_V_compare_34 (by decide) ?_
      exact z_iretR hx hb hr hlocks d_V_compare_35 (by unfold a_compare; rw [hr5])
    · obtain ⟨ht9, hw9, hl9⟩ := vOK_get hV hr10
      obtain ⟨hh9, hnb9⟩ := rv_hd hw9 hq9
      refine lv_astore (lv' := [(4, .ref a8), (3, .null), (0, .ref vv), (1, .int a), (2, .int b)]) hx hb d_V_compare_11 hl (by decide) rfl (fun ls hl => ?_)
      refine lv_aload_nN hx hb d_V_compare_13 rfl (lv_at hl 1 rfl) ?_
      refine lv_ifnullN (tgt := 34) hx hb d_V_compare_14 (by decide) ?_
      refine lv_iconst (v := 2) hx hb d_V_compare_34 (by decide) ?_
      exact z_iretR hx hb hr hlocks d_V_compare_35 (by unfold a_compare; rw [hr5])
  · obtain ⟨ht4, hw4, hl4⟩ := vOK_get hV hr5
    obtain ⟨hh4, hnb4⟩ := rv_hd hw4 hq4
    refine lv_astore_n (lv' := [(3, .ref a3), (0, .ref vv), (1, .int a), (2, .int b)]) hx hb d_V_compare_5 rfl hl (by decide) rfl (fun ls hl => ?_)
    refine lv_aload_n hx hb d_V_compare_6 rfl (lv_at hl 1 rfl) ?_
    refine lv_iload_n hx hb d_V_compare_7 rfl (lv_at hl 3 rfl) ?_
    refine z_callR (va_runV (C := "ValueTrees") (As := [.int b]) (rest := []) ⟨hx, hb, hml, hown, hts⟩ (c_V_held l D dT _ Bq vv rg li ed tb tc RV hC hV b) ⟨callB_of 1 hts (gI gd_up gd_c q275) rfl rfl rfl (ht _ q1) (ht _ q272) hd_V_held ⟨Nat.le_of_ble_eq_true rfl, Nat.le_of_ble_eq_true rfl⟩, ht _ q274, ht _ qs7⟩ (z_preV hK (va_recv hK.1 (z_1 hvv) (ci := 0) (q0 := 0) rfl rfl)) rfl rfl hl.1 rfl (lv_room (Nat.le_of_ble_eq_true rfl)) d_V_compare_8 ⟨Nat.zero_le _, Nat.zero_le _⟩) (fun v12 hv11 => ?_)
    rcases hv11 with ⟨rfl, hr15⟩ | ⟨a13, v14, rfl, hr15, hq14⟩
    · refine lv_astoreN (lv' := [(4, .null), (3, .ref a3), (0, .ref vv), (1, .int a), (2, .int b)]) hx hb d_V_compare_11 hl (by decide) rfl (fun ls hl => ?_)
      refine lv_aload_n hx hb d_V_compare_13 rfl (lv_at hl 1 rfl) ?_
      refine lv_ifnull hx hb d_V_compare_14 ?_
      refine lv_aloadN hx hb d_V_compare_17 (lv_at hl 0 rfl) ?_
      refine lv_ifnullN (tgt := 34) hx hb d_V_compare_19 (by decide) ?_
      refine lv_iconst (v := 2) hx hb d_V_compare_34 (by decide) ?_
      exact z_iretR hx hb hr hlocks d_V_compare_35 (by unfold a_compare; rw [hr5, hr15])
    · obtain ⟨ht14, hw14, hl14⟩ := vOK_get hV hr15
      obtain ⟨hh14, hnb14⟩ := rv_hd hw14 hq14
      refine lv_astore (lv' := [(4, .ref a13), (3, .ref a3), (0, .ref vv), (1, .int a), (2, .int b)]) hx hb d_V_compare_11 hl (by decide) rfl (fun ls hl => ?_)
      refine lv_aload_n hx hb d_V_compare_13 rfl (lv_at hl 1 rfl) ?_
      refine lv_ifnull hx hb d_V_compare_14 ?_
      refine lv_aload hx hb d_V_compare_17 (lv_at hl 0 rfl) ?_
      refine lv_ifnull hx hb d_V_compare_19 ?_
      refine lv_aload_n hx hb d_V_compare_22 rfl (lv_at hl 1 rfl) ?_
      refine z_vty hx hb ht hown hK hh4 (ht _ q235) d_V_compare_23 ?_
      refine lv_aload hx hb d_V_compare_26 (lv_at hl 0 rfl) ?_
      refine z_vty hx hb ht hown hK hh14 (ht _ q235) d_V_compare_28 ?_
      refine lv_icmp_eq (tgt := 36) hx hb d_V_compare_31 (by decide) (fun c16 => ?_) (fun c16 => ?_)
      · have nc16 : (vty v4) = (vty v14) := (nI_eq (a := (vty v4)) (b := (vty v14)) (by omega) (by omega)).mp c16
        have hsame : vty v4 = vty v14 := nc16
        refine lv_aload_n hx hb d_V_compare_36 rfl (lv_at hl 2 rfl) ?_
        refine lv_aload_n hx hb d_V_compare_37 rfl (lv_at hl 1 rfl) ?_
        refine z_vty hx hb ht hown hK hh4 (ht _ q235) d_V_compare_38 ?_
        refine z_callR (va_runV (C := "ValueTrees") (As := [.int (nI (vty v4))]) (rest := []) ⟨hx, hb, hml, hown, hts⟩ (c_V_typeNumbered l D dT _ Bq vv rg li ed tb tc RV hC hV (nI (vty v4))) ⟨callB_of 1 hts (gI gd_up gd_c q163) rfl rfl rfl (ht _ q1) (ht _ q160) hd_V_typeNumbered ⟨Nat.le_of_ble_eq_true rfl, Nat.le_of_ble_eq_true rfl⟩, ht _ q162, ht _ qs4⟩ (z_preV hK (va_recv hK.1 (z_1 hvv) (ci := 0) (q0 := 0) rfl rfl)) rfl rfl hl.1 rfl (lv_room (Nat.le_of_ble_eq_true rfl)) d_V_compare_41 ⟨Nat.zero_le _, Nat.zero_le _⟩) (fun v18 hv17 => ?_)
        rcases hv17 with ⟨rfl, hq22⟩ | ⟨a19, k20, rfl, hq22, hk20, hnba19, oa19⟩
        · rw [tN_nI ht4 htc] at hq22
          cases hq22
        · rw [tN_nI ht4 htc] at hq22
          have ek9 : vty v4 = k20 := Option.some.inj hq22
          refine lv_astore (lv' := [(5, .ref a19), (4, .ref a13), (3, .ref a3), (0, .ref vv), (1, .int a), (2, .int b)]) hx hb d_V_compare_44 hl (by decide) rfl (fun ls hl => ?_)
          refine lv_aload hx hb d_V_compare_46 (lv_at hl 0 rfl) ?_
          refine lv_ifnull hx hb d_V_compare_48 ?_
          refine lv_aload hx hb d_V_compare_51 (lv_at hl 0 rfl) ?_
          refine lv_iconst (v := 1) hx hb d_V_compare_53 (by decide) ?_
          refine z_callR (va_runV (C := "ValueTrees$Type") (As := [.int 1]) (rest := []) ⟨hx, hb, hml, hown, hts⟩ (c_Type_isMarked l D dT _ a19 (tb k20) oa19) ⟨callB_of 1 hts (gI gd_up gd_c q185) rfl rfl rfl (ht _ q5) (ht _ q182) hd_Type_isMarked ⟨Nat.le_of_ble_eq_true rfl, Nat.le_of_ble_eq_true rfl⟩, ht _ q183, ht _ q184⟩ (z_preV hK (va_recv hK.1 (z_1 oa19) (ci := 1) (q0 := 0) rfl rfl)) rfl rfl hl.1 rfl (lv_room (Nat.le_of_ble_eq_true rfl)) d_V_compare_54 ⟨Nat.zero_le _, Nat.zero_le _⟩) (fun v24 hv23 => ?_)
          have hv23 : v24 = .int (if tC (tb k20) = true then 1 else 0) := hv23
          rcases Classical.em (tC (tb k20) = true) with hmk | hmk
          · rw [if_pos hmk] at hv23
            subst hv23
            rw [← ek9] at hmk
            refine lv_if_ne (tgt := 62) hx hb d_V_compare_57 (by decide) (fun _ => ?_) (fun c25 => absurd c25 (by decide))
            refine lv_aload_n hx hb d_V_compare_62 rfl (lv_at hl 2 rfl) ?_
            refine lv_aload hx hb d_V_compare_63 (lv_at hl 1 rfl) ?_
            refine lv_iconst (v := 0) hx hb d_V_compare_65 (by decide) ?_
            refine z_callR (va_runS (As := [.ref a3, .ref a13, .int 0]) (rest := []) ⟨hx, hb, hml, hown, hts⟩ (c_V_order l D dT _ Bq tb tc hO 40 0 (vty v4) v4 v14 a3 a13 ht4 hmk hw4 (by rw [hsame]; exact hw14) hq4 hq14 (by omega) (by decide)) ⟨callB_of 3 hts (gI gd_up gd_c q446) rfl rfl rfl (ht _ q1) (ht _ q444) hd_V_order ⟨Nat.le_of_ble_eq_true rfl, Nat.le_of_ble_eq_true rfl⟩, ht _ q445⟩ (z_preS hK) rfl rfl hl.1 rfl (lv_room (Nat.le_of_ble_eq_true rfl)) d_V_compare_66 ⟨Nat.zero_le _, Nat.zero_le _⟩) (fun v27 hv26 => ?_)
            subst hv26
            exact z_iretR hx hb hr hlocks d_V_compare_69 (by unfold a_compare; rw [hr5, hr15]; dsimp only; rw [if_pos ⟨hsame, hmk⟩])
          · rw [if_neg hmk] at hv23
            subst hv23
            rw [← ek9] at hmk
            refine lv_if_ne (tgt := 62) hx hb d_V_compare_57 (by decide) (fun c28 => absurd c28 (by decide)) (fun _ => ?_)
            refine lv_iconst (v := 2) hx hb d_V_compare_60 (by decide) ?_
            exact z_iretR hx hb hr hlocks d_V_compare_61 (by unfold a_compare; rw [hr5, hr15]; dsimp only; rw [if_neg (fun h9 => hmk h9.2)])
      · have nc16 : ¬ (vty v4) = (vty v14) := fun h9 => c16 ((nI_eq (a := (vty v4)) (b := (vty v14)) (by omega) (by omega)).mpr h9)
        refine lv_iconst (v := 2) hx hb d_V_compare_34 (by decide) ?_
        exact z_iretR hx hb hr hlocks d_V_compare_35 (by unfold a_compare; rw [hr5, hr15]; dsimp only; rw [if_neg (fun h9 => nc16 h9.1)])
