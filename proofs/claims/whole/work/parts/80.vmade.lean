abbrev b_V_withoutEntry : ByteArray := prog_1_method_53_code
abbrev y_V_withoutEntry : MethodName := ⟨"ValueTrees", "withoutEntry", "(LValueTrees$Tree;I)LValueTrees$Tree;"⟩
abbrev w_V_withoutEntry : List Cond := .code y_V_withoutEntry b_V_withoutEntry 4 (Option.some (.object "ValueTrees$Tree")) :: gt
theorem hd_V_withoutEntry : (y_V_withoutEntry).cls ≠ "java/lang/invoke/MethodHandle" ∧ (y_V_withoutEntry).cls ≠ "java/lang/invoke/VarHandle" ∧ (parseMethodDescriptor (y_V_withoutEntry).desc).map (fun d => d.parameters.length) = some 2 := by decide +kernel
theorem d_V_withoutEntry_0 : decode b_V_withoutEntry 0 = .ok (.iload_n 1, 1) := by decide +kernel
theorem d_V_withoutEntry_1 : decode b_V_withoutEntry 1 = .ok (.ifCond .lt 12, 3) := by decide +kernel
theorem d_V_withoutEntry_4 : decode b_V_withoutEntry 4 = .ok (.iload_n 1, 1) := by decide +kernel
theorem d_V_withoutEntry_5 : decode b_V_withoutEntry 5 = .ok (.aload_n 0, 1) := by decide +kernel
theorem d_V_withoutEntry_6 : decode b_V_withoutEntry 6 = .ok (.getfield 196, 3) := by decide +kernel
theorem d_V_withoutEntry_9 : decode b_V_withoutEntry 9 = .ok (.arraylength, 1) := by decide +kernel
theorem d_V_withoutEntry_10 : decode b_V_withoutEntry 10 = .ok (.if_icmp .lt 5, 3) := by decide +kernel
theorem d_V_withoutEntry_13 : decode b_V_withoutEntry 13 = .ok (.aload_n 0, 1) := by decide +kernel
theorem d_V_withoutEntry_14 : decode b_V_withoutEntry 14 = .ok (.areturn, 1) := by decide +kernel
theorem d_V_withoutEntry_15 : decode b_V_withoutEntry 15 = .ok (.aload_n 0, 1) := by decide +kernel
theorem d_V_withoutEntry_16 : decode b_V_withoutEntry 16 = .ok (.getfield 196, 3) := by decide +kernel
theorem d_V_withoutEntry_19 : decode b_V_withoutEntry 19 = .ok (.arraylength, 1) := by decide +kernel
theorem d_V_withoutEntry_20 : decode b_V_withoutEntry 20 = .ok (.iconst 1, 1) := by decide +kernel
theorem d_V_withoutEntry_21 : decode b_V_withoutEntry 21 = .ok (.isub, 1) := by decide +kernel
theorem d_V_withoutEntry_22 : decode b_V_withoutEntry 22 = .ok (.anewarray 120, 3) := by decide +kernel
theorem d_V_withoutEntry_25 : decode b_V_withoutEntry 25 = .ok (.astore_n 2, 1) := by decide +kernel
theorem d_V_withoutEntry_26 : decode b_V_withoutEntry 26 = .ok (.iconst 0, 1) := by decide +kernel
theorem d_V_withoutEntry_27 : decode b_V_withoutEntry 27 = .ok (.istore_n 3, 1) := by decide +kernel
theorem d_V_withoutEntry_28 : decode b_V_withoutEntry 28 = .ok (.iload_n 3, 1) := by decide +kernel
theorem d_V_withoutEntry_29 : decode b_V_withoutEntry 29 = .ok (.aload_n 2, 1) := by decide +kernel
theorem d_V_withoutEntry_30 : decode b_V_withoutEntry 30 = .ok (.arraylength, 1) := by decide +kernel
theorem d_V_withoutEntry_31 : decode b_V_withoutEntry 31 = .ok (.if_icmp .ge 29, 3) := by decide +kernel
theorem d_V_withoutEntry_34 : decode b_V_withoutEntry 34 = .ok (.aload_n 2, 1) := by decide +kernel
theorem d_V_withoutEntry_35 : decode b_V_withoutEntry 35 = .ok (.iload_n 3, 1) := by decide +kernel
theorem d_V_withoutEntry_36 : decode b_V_withoutEntry 36 = .ok (.aload_n 0, 1) := by decide +kernel
theorem d_V_withoutEntry_37 : decode b_V_withoutEntry 37 = .ok (.getfield 196, 3) := by decide +kernel
theorem d_V_withoutEntry_40 : decode b_V_withoutEntry 40 = .ok (.iload_n 3, 1) := by decide +kernel
theorem d_V_withoutEntry_41 : decode b_V_withoutEntry 41 = .ok (.iload_n 1, 1) := by decide +kernel
theorem d_V_withoutEntry_42 : decode b_V_withoutEntry 42 = .ok (.if_icmp .ge 7, 3) := by decide +kernel
theorem d_V_withoutEntry_45 : decode b_V_withoutEntry 45 = .ok (.iload_n 3, 1) := by decide +kernel
theorem d_V_withoutEntry_46 : decode b_V_withoutEntry 46 = .ok (.goto 6, 3) := by decide +kernel
theorem d_V_withoutEntry_49 : decode b_V_withoutEntry 49 = .ok (.iload_n 3, 1) := by decide +kernel
theorem d_V_withoutEntry_50 : decode b_V_withoutEntry 50 = .ok (.iconst 1, 1) := by decide +kernel
theorem d_V_withoutEntry_51 : decode b_V_withoutEntry 51 = .ok (.iadd, 1) := by decide +kernel
theorem d_V_withoutEntry_52 : decode b_V_withoutEntry 52 = .ok (.aaload, 1) := by decide +kernel
theorem d_V_withoutEntry_53 : decode b_V_withoutEntry 53 = .ok (.aastore, 1) := by decide +kernel
theorem d_V_withoutEntry_54 : decode b_V_withoutEntry 54 = .ok (.iinc 3 1, 3) := by decide +kernel
theorem d_V_withoutEntry_57 : decode b_V_withoutEntry 57 = .ok (.goto (-29), 3) := by decide +kernel
theorem d_V_withoutEntry_60 : decode b_V_withoutEntry 60 = .ok (.new 118, 3) := by decide +kernel
theorem d_V_withoutEntry_63 : decode b_V_withoutEntry 63 = .ok (.dup, 1) := by decide +kernel
theorem d_V_withoutEntry_64 : decode b_V_withoutEntry 64 = .ok (.aload_n 0, 1) := by decide +kernel
theorem d_V_withoutEntry_65 : decode b_V_withoutEntry 65 = .ok (.getfield 154, 3) := by decide +kernel
theorem d_V_withoutEntry_68 : decode b_V_withoutEntry 68 = .ok (.aload_n 0, 1) := by decide +kernel
theorem d_V_withoutEntry_69 : decode b_V_withoutEntry 69 = .ok (.getfield 264, 3) := by decide +kernel
theorem d_V_withoutEntry_72 : decode b_V_withoutEntry 72 = .ok (.aload_n 0, 1) := by decide +kernel
theorem d_V_withoutEntry_73 : decode b_V_withoutEntry 73 = .ok (.getfield 196, 3) := by decide +kernel
theorem d_V_withoutEntry_76 : decode b_V_withoutEntry 76 = .ok (.iload_n 1, 1) := by decide +kernel
theorem d_V_withoutEntry_77 : decode b_V_withoutEntry 77 = .ok (.aaload, 1) := by decide +kernel
theorem d_V_withoutEntry_78 : decode b_V_withoutEntry 78 = .ok (.getfield 265, 3) := by decide +kernel
theorem d_V_withoutEntry_81 : decode b_V_withoutEntry 81 = .ok (.isub, 1) := by decide +kernel
theorem d_V_withoutEntry_82 : decode b_V_withoutEntry 82 = .ok (.aload_n 2, 1) := by decide +kernel
theorem d_V_withoutEntry_83 : decode b_V_withoutEntry 83 = .ok (.invokespecial 122, 3) := by decide +kernel
theorem d_V_withoutEntry_86 : decode b_V_withoutEntry 86 = .ok (.areturn, 1) := by decide +kernel
set_option maxHeartbeats 4000000 in
set_option maxRecDepth 100000 in
theorem c_V_withoutEntry (l : Launch) (D : va_G) (dT : Nat → ClassId) (H : Heap) (Bq : Nat → Prop) (tb : Nat → TR) (tc : Nat) (hO : tOK tb tc) (a b : Nat) (ch kv : VT) (t : Nat) (htl : t < tc) (hwd : tW (tb t) = 12 ∨ tW (tb t) = 15 ∨ tW (tb t) = 16) (hwc : wty tb ch (cmd tb t) t) (hwk : wty tb kv 0 (lt_ tb t)) (hra : rv D dT Bq H (.pow (.neg ch) t) a) (hrk : rv D dT Bq H kv b) (hcl : (cs ch).length ≤ 160) (hBs : ∀ q, Bq q → q < H.size) (hth : thr (skp ch kv) kv = true) : Met l y_V_withoutEntry w_V_withoutEntry ({ frames := 3, cells := 2, slots := 90, locals := 65 }) (z_P D dT [.ref a, .int (nI (clen (prc ch kv)))] H) (z_Q (fun q => H.size ≤ q) (fun v H1 => ∃ q, v = some (.ref q) ∧ H.size ≤ q ∧ rv D dT Bq H1 (.pow (.neg (app (prc ch kv) (rst ch kv))) t) q)) 2 90 (fun q => H.size ≤ q) := by
  obtain ⟨ea, fe, oa, hna, oe, hne, hch⟩ := rv_neg.mp hra
  have htc := hO.1
  have hcle := clen_le hwc
  have hlt := (tl_some hO htl (by omega)).2.1
  have hcmp := tree_cmp hO htl hwd
  have hpl := thr_lt hth
  refine Met.ofW (cc := b_V_withoutEntry) (maxL := 4) (ret := (Option.some (.object "ValueTrees$Tree"))) (by decide) rfl ?_
  intro p e s m args below meth c s₁ B hml hv
  obtain ⟨rfl, rfl, hK⟩ := hv
  have hx := B.exec
  have hb := B.bytes
  have hr := B.returns
  have hts := atoms_spec (ws := w_V_withoutEntry) B.pre
  have ht : ∀ w9 ∈ gt, w9.before [.ref a, .int (nI (clen (prc ch kv)))].toArray s = true := fun w9 h => hts w9 (List.mem_cons_of_mem _ h)
  have hown : s.vm.findClass "ValueTrees" = some m.cls := findClass_of_methodNamed B.named
  have hlocks := B.notSynchronized
  have hS : va_S (fun q => s.heap.size ≤ q) s.heap s.heap [] := va_S.rf
  have hl := lv_entry ([.ref a, .int (nI (clen (prc ch kv)))]) (n := 4) (Nat.le_of_ble_eq_true rfl)
  rw [lg_entry_eq]
  generalize (lg_sl ([.ref a, .int (nI (clen (prc ch kv)))]) ++ List.replicate (4 - (lg_sl ([.ref a, .int (nI (clen (prc ch kv)))])).length) Slot.unset).toArray = ls at hl ⊢
  have hl : lv_has ls 4 [(0, .ref a), (1, .int (nI (clen (prc ch kv))))] := hl
  have hN : nU s.heap s.heap := nU.rf
  refine lv_iload_n hx hb d_V_withoutEntry_0 rfl (lv_at hl 1 rfl) ?_
  refine lv_if_lt (tgt := 13) hx hb d_V_withoutEntry_1 (by decide) (fun c1 => absurd c1 (nI_pos (by omega))) (fun c1 => ?_)
  refine lv_iload_n hx hb d_V_withoutEntry_4 rfl (lv_at hl 1 rfl) ?_
  refine lv_aload_n hx hb d_V_withoutEntry_5 rfl (lv_at hl 0 rfl) ?_
  refine va_get (D := D) (ci := 7) (v := .ref ea) (C := "ValueTrees$Tree") (T := T_Tree) (N := 3) hx hb ht in_Tree hown hK.1 (z_1 (oa.grew hN.2)) 0 rfl rfl 2 (by decide) (ht _ q358) (fun _ h9 => h9) rfl d_V_withoutEntry_6 ?_
  refine z_alen hx hb hK (oe.grew hN.2) rfl d_V_withoutEntry_9 ?_
  refine lv_icmp_lt (tgt := 15) hx hb d_V_withoutEntry_10 (by decide) (fun c2 => ?_) (fun c2 => absurd ((nI_ltI (by omega) (by omega)).mpr hpl) c2)
  refine lv_aload_n hx hb d_V_withoutEntry_15 rfl (lv_at hl 0 rfl) ?_
  refine va_get (D := D) (ci := 7) (v := .ref ea) (C := "ValueTrees$Tree") (T := T_Tree) (N := 3) hx hb ht in_Tree hown hK.1 (z_1 (oa.grew hN.2)) 0 rfl rfl 2 (by decide) (ht _ q358) (fun _ h9 => h9) rfl d_V_withoutEntry_16 ?_
  refine z_alen hx hb hK (oe.grew hN.2) rfl d_V_withoutEntry_19 ?_
  refine lv_iconst (v := 1) hx hb d_V_withoutEntry_20 (by decide) ?_
  refine lv_isub hx hb d_V_withoutEntry_21 ?_
  rw [show (((nI (clen ch)) - 1) : Int32) = nI ((clen ch) - 1) from pk_sub (a := (clen ch)) (b := 1) (by omega)]
  have hSp := hS
  refine z_newq (C := "ValueTrees$Entry") hx hb hown (ht _ q351) hK (List.mem_of_getElem? (i := 2) rfl) 4 rfl hS (clen ch - 1) rfl (by omega) (Nat.le_of_ble_eq_true rfl) (by show 0 + (clen ch - 1) ≤ 90; omega) d_V_withoutEntry_22 (fun ad3 H hqad3 hzad3 oad3 hoad3 hS => ?_)
  have hgad3 : s.heap.size ≤ ad3 := by rw [hqad3]; exact hSp.1
  have hAad3 : (fun q => s.heap.size ≤ q) ad3 := hgad3
  have hgbad3 := Nat.le_trans hN.1 (Nat.le_of_eq hqad3.symm)
  have hN := hN.grew hzad3 hoad3
  refine lv_astore_n (lv' := [(2, .ref ad3), (0, .ref a), (1, .int (nI (clen (prc ch kv))))]) hx hb d_V_withoutEntry_25 rfl hl (by decide) rfl (fun ls hl => ?_)
  refine lv_iconst (v := 0) hx hb d_V_withoutEntry_26 (by decide) ?_
  refine lv_istore_n (lv' := [(3, .int 0), (2, .ref ad3), (0, .ref a), (1, .int (nI (clen (prc ch kv))))]) hx hb d_V_withoutEntry_27 rfl hl (by decide) rfl (fun ls hl => ?_)
  have loop4 : ∀ (n289 : Nat) (i : Nat), (i ≤ clen ch - 1) → (clen ch - 1) - i < n289 → ∀ (H : Heap) (locs : List Loc) (g : Nat → Option Nat), (∀ j, j < i → g j = fe (if j < (clen (prc ch kv)) then j else j + 1)) → va_at D cls (ad3, .inl (dT 4, clen ch - 1, .inr (.inr (.inr (.inr g))))) H → nU s.heap H → va_S (fun q => s.heap.size ≤ q) s.heap H locs → ∀ (ls : Array Slot), lv_has ls 4 [(3, .int (nI i)), (2, .ref ad3), (0, .ref a), (1, .int (nI (clen (prc ch kv))))] → W p l e (headSpec w_V_withoutEntry ({ frames := 3, cells := 2, slots := 90, locals := 65 })).room s m [.ref a, .int (nI (clen (prc ch kv)))].toArray below meth c H locs (0 + 1) (0 + (clen ch - 1)) (MQ below (z_Q (fun q => s.heap.size ≤ q) (fun v H1 => ∃ q, v = some (.ref q) ∧ s.heap.size ≤ q ∧ rv D dT Bq H1 (.pow (.neg (app (prc ch kv) (rst ch kv))) t) q)) [.ref a, .int (nI (clen (prc ch kv)))].toArray s 2 90 (fun q => s.heap.size ≤ q)) (F0 m 28 ls []) := by
    intro n289
    induction n289 with
    | zero =>
      intro i hi h289
      exact absurd h289 (Nat.not_lt_zero _)
    | succ n289 ih28 =>
      intro i hi h289 H locs g hg oad3 hN hS ls hl
      refine lv_iload_n hx hb d_V_withoutEntry_28 rfl (lv_at hl 0 rfl) ?_
      refine lv_aload_n hx hb d_V_withoutEntry_29 rfl (lv_at hl 1 rfl) ?_
      refine z_alen hx hb hK oad3 rfl d_V_withoutEntry_30 ?_
      refine lv_icmp_ge (tgt := 60) hx hb d_V_withoutEntry_31 (by decide) (fun c5 => ?_) (fun c5 => ?_)
      · have nc5 : (clen ch - 1) ≤ i := (nI_leI (a := (clen ch - 1)) (b := i) (by omega) (by omega)).mp c5
        have hSp := hS
        refine z_newo (ci := 7) hx hb ht in_Tree ty_Tree tyk_Tree hown (ht _ q349) (ht _ q350) (ht _ q18) hK hS rfl fs_Tree (Nat.le_of_ble_eq_true rfl) (by show 0 + (clen ch - 1) + 3 ≤ 90; omega) d_V_withoutEntry_60 (fun ad6 H hqad6 hzad6 oad6 hoad6 hS => ?_)
        have nead3ad6 : ad3 ≠ ad6 := by rw [hqad6]; exact Nat.ne_of_lt oad3.lt
        have oad3 := oad3.grew hoad6
        have hgad6 : s.heap.size ≤ ad6 := by rw [hqad6]; exact hSp.1
        have hAad6 : (fun q => s.heap.size ≤ q) ad6 := hgad6
        have hgbad6 := Nat.le_trans hN.1 (Nat.le_of_eq hqad6.symm)
        have hN := hN.grew hzad6 hoad6
        refine lv_dup hx hb d_V_withoutEntry_63 rfl ?_
        refine lv_aload_n hx hb d_V_withoutEntry_64 rfl (lv_at hl 2 rfl) ?_
        refine va_get (D := D) (ci := 7) (v := .int (nI t)) (C := "ValueTrees$Tree") (T := T_Tree) (N := 3) hx hb ht in_Tree hown hK.1 (z_1 (oa.grew hN.2)) 0 rfl rfl 0 (by decide) (ht _ q237) (u_same (ht _ q238)) rfl d_V_withoutEntry_65 ?_
        refine lv_aload_n hx hb d_V_withoutEntry_68 rfl (lv_at hl 2 rfl) ?_
        refine va_get (D := D) (ci := 7) (v := .int (wlen (.neg ch) t)) (C := "ValueTrees$Tree") (T := T_Tree) (N := 3) hx hb ht in_Tree hown hK.1 (z_1 (oa.grew hN.2)) 0 rfl rfl 1 (by decide) (ht _ q247) (u_same (ht _ q248)) rfl d_V_withoutEntry_69 ?_
        refine lv_aload_n hx hb d_V_withoutEntry_72 rfl (lv_at hl 2 rfl) ?_
        refine va_get (D := D) (ci := 7) (v := .ref ea) (C := "ValueTrees$Tree") (T := T_Tree) (N := 3) hx hb ht in_Tree hown hK.1 (z_1 (oa.grew hN.2)) 0 rfl rfl 2 (by decide) (ht _ q358) (fun _ h9 => h9) rfl d_V_withoutEntry_73 ?_
        refine lv_iload_n hx hb d_V_withoutEntry_76 rfl (lv_at hl 3 rfl) ?_
        obtain ⟨e9, r9, hsk, hn9, hwe9, hel9, hwr9⟩ := at_place (k := kv) hwc hpl
        obtain ⟨b9, hfb9, hrb9⟩ := rc_nth hch hn9
        rw [Nat.zero_add] at hfb9
        obtain ⟨ka9, vv9, ob9, hnb9, -⟩ := re_at hwe9 hrb9
        refine z_aald (v := .ref b9) hx hb hK (oe.grew hN.2) rfl (clen (prc ch kv)) rfl (by omega) (by omega) (by rw [hfb9]; rfl) d_V_withoutEntry_77 ?_
        refine va_get (D := D) (ci := 8) (v := .int (nI (eb e9).length)) (C := "ValueTrees$Entry") (T := T_Entry) (N := 3) hx hb ht in_Entry hown hK.1 (z_1 (ob9.grew hN.2)) 0 rfl rfl 2 (by decide) (ht _ q430) (fun _ h9 => h9) rfl d_V_withoutEntry_78 ?_
        refine lv_isub hx hb d_V_withoutEntry_81 ?_
        rw [show (((wlen (.neg ch) t) - (nI (eb e9).length)) : Int32) = nI (5 + (cs ch).length - (eb e9).length) from (by unfold wlen; rw [l_neg]; exact pk_sub (a := 5 + (cs ch).length) (b := (eb e9).length) (by omega))]
        refine lv_aload_n hx hb d_V_withoutEntry_82 rfl (lv_at hl 1 rfl) ?_
        refine z_callQ (va_runI (As := [.int (nI t), .int (nI (5 + (cs ch).length - (eb e9).length)), .ref ad3]) (rest := [.ref ad6]) ⟨hx, hb, hml, hown, hts⟩ (c_Tree_init l D dT _ ad6 oad6 (nI t) (nI (5 + (cs ch).length - (eb e9).length)) ad3) ⟨callB_of 3 hts (gI gd_up gd_c q355) rfl rfl rfl (ht _ q18) (ht _ q353) hd_Tree_init ⟨Nat.le_of_ble_eq_true rfl, Nat.le_of_ble_eq_true rfl⟩, rfl, ht _ q354⟩ (z_preS hK) rfl rfl hl.1 rfl (lv_room (Nat.le_of_ble_eq_true rfl)) d_V_withoutEntry_83 ⟨(Nat.le_of_ble_eq_true rfl), by show 0 + (clen ch - 1) + 3 + 0 ≤ 90; omega⟩) hS (fun q9 h9 => by rw [show q9 = ad6 from h9]; exact hAad6) (fun v8 H locs hv7 hz9 hf10 hS => ?_)
        obtain ⟨rfl, oad6⟩ := hv7
        have oad6 : va_at D cls (ad6, .inr (7, [.int (nI t), .int (nI (5 + (cs ch).length - (eb e9).length)), .ref ad3])) H := oad6
        have oad3 := oad3.kept (hf10 _ oad3.lt (fun h9 => nead3ad6 h9))
        have hN := hN.call hz9 hf10 (fun x hx h9 => by have h8 : x = ad6 := h9; omega)
        refine W.eq (g2 := F0 m 86 ls [.ref ad6]) rfl ?_
        refine z_aretQ hx hb hr hlocks d_V_withoutEntry_86 (Or.inl ⟨_, rfl⟩) (Or.inr ⟨_, rfl⟩) hS (Nat.le_of_ble_eq_true rfl) (by show 0 + (clen ch - 1) + 3 + 0 ≤ 90; omega) ?_
        refine ⟨ad6, rfl, hgad6, ?_⟩
        have hw9 := app_wty (rst_wty (k := kv) hwc) (wty_prc kv hwc)
        have hcs := cs_split kv hwc
        have hr9 : rst ch kv = r9 := by rw [rst_t hth, hsk]; rfl
        have hcn := (nth_rem hth 0).2
        refine rv_neg.mpr ⟨ad3, g, ?_, fun h9 => absurd (hBs _ h9) (Nat.not_lt.mpr hgad6), ?_, fun h9 => absurd (hBs _ h9) (Nat.not_lt.mpr hgad3), rc_of hw9.1 (fun k9 e8 hk9 => ?_)⟩
        · have hle : wlen (.neg (app (prc ch kv) (rst ch kv))) t = nI (5 + (cs ch).length - (eb e9).length) := by
            unfold wlen
            rw [l_neg, hw9.2, hcs, hr9, hsk, cs_mul, List.length_append, List.length_append, List.length_append]
            congr 1; omega
          rw [hle]; exact oad6
        · rw [hcn]; exact oad3
        · have h5 := nth_some hk9
          have h7 := hk9
          rw [(nth_rem hth k9).1] at h7
          obtain ⟨b8, h8, h6⟩ := rc_nth hch h7
          refine ⟨b8, ?_, rq_up hN.2 h6⟩
          rw [Nat.zero_add] at h8 ⊢
          rw [hg k9 (by omega)]; exact h8
      · have nc5 : ¬ (clen ch - 1) ≤ i := fun h9 => c5 ((nI_leI (a := (clen ch - 1)) (b := i) (by omega) (by omega)).mpr h9)
        refine lv_aload_n hx hb d_V_withoutEntry_34 rfl (lv_at hl 1 rfl) ?_
        refine lv_iload_n hx hb d_V_withoutEntry_35 rfl (lv_at hl 0 rfl) ?_
        refine lv_aload_n hx hb d_V_withoutEntry_36 rfl (lv_at hl 2 rfl) ?_
        refine va_get (D := D) (ci := 7) (v := .ref ea) (C := "ValueTrees$Tree") (T := T_Tree) (N := 3) hx hb ht in_Tree hown hK.1 (z_1 (oa.grew hN.2)) 0 rfl rfl 2 (by decide) (ht _ q358) (fun _ h9 => h9) rfl d_V_withoutEntry_37 ?_
        refine lv_iload_n hx hb d_V_withoutEntry_40 rfl (lv_at hl 0 rfl) ?_
        refine lv_iload_n hx hb d_V_withoutEntry_41 rfl (lv_at hl 3 rfl) ?_
        refine lv_icmp_ge (tgt := 49) hx hb d_V_withoutEntry_42 (by decide) (fun c11 => ?_) (fun c11 => ?_)
        · have nc11 : (clen (prc ch kv)) ≤ i := (nI_leI (a := (clen (prc ch kv))) (b := i) (by omega) (by omega)).mp c11
          refine lv_iload_n hx hb d_V_withoutEntry_49 rfl (lv_at hl 0 rfl) ?_
          refine lv_iconst (v := 1) hx hb d_V_withoutEntry_50 (by decide) ?_
          refine lv_iadd hx hb d_V_withoutEntry_51 ?_
          rw [show (((nI i) + 1) : Int32) = nI (i + 1) from nI_add i 1]
          obtain ⟨e9, hn9, hwe9, hel9⟩ := nth_lt hwc (k := i + 1) (by omega)
          obtain ⟨b9, hfb9, hrb9⟩ := rc_nth hch hn9
          rw [Nat.zero_add] at hfb9
          obtain ⟨ka9, vv9, ob9, hnb9, hwk9, hrk9, hvv9⟩ := re_at hwe9 hrb9
          have hkl9 := ky_len e9
          refine z_aald (v := .ref b9) hx hb hK (oe.grew hN.2) rfl (i + 1) rfl (by omega) (by omega) (by rw [hfb9]; rfl) d_V_withoutEntry_52 ?_
          refine z_aas hx hb hK hS hAad3 oad3 rfl (z_anyE hK (ob9.grew hN.2)) i rfl (by omega) (by omega) d_V_withoutEntry_53 (fun H locs oad3 hz12 ho13 hS => ?_)
          have hN := hN.put hz12 ho13 hgbad3
          refine lv_iinc (v := (nI (i + 1))) (lv' := [(3, .int (nI (i + 1))), (2, .ref ad3), (0, .ref a), (1, .int (nI (clen (prc ch kv))))]) hx hb d_V_withoutEntry_54 hl (k := 0) rfl (nI_1 i) (by decide) rfl (fun ls hl => ?_)
          refine lv_goto (tgt := 28) hx hb d_V_withoutEntry_57 (by decide) ?_
          exact ih28 (i + 1) (by omega) (by omega) _ _ _ (fun j hj => (Nat.lt_or_eq_of_le (Nat.le_of_lt_succ hj)).elim (fun h8 => by rw [va_upN (by omega)]; exact hg j h8) (fun e8 => by rw [e8, va_upS, if_neg (by omega)]; exact hfb9.symm)) oad3 hN hS ls (lv_sub hl [0, 1, 2, 3] rfl)
        · have nc11 : ¬ (clen (prc ch kv)) ≤ i := fun h9 => c11 ((nI_leI (a := (clen (prc ch kv))) (b := i) (by omega) (by omega)).mpr h9)
          refine lv_iload_n hx hb d_V_withoutEntry_45 rfl (lv_at hl 0 rfl) ?_
          refine lv_goto (tgt := 52) hx hb d_V_withoutEntry_46 (by decide) ?_
          obtain ⟨e9, hn9, hwe9, hel9⟩ := nth_lt hwc (k := i) (by omega)
          obtain ⟨b9, hfb9, hrb9⟩ := rc_nth hch hn9
          rw [Nat.zero_add] at hfb9
          obtain ⟨ka9, vv9, ob9, hnb9, hwk9, hrk9, hvv9⟩ := re_at hwe9 hrb9
          have hkl9 := ky_len e9
          refine z_aald (v := .ref b9) hx hb hK (oe.grew hN.2) rfl i rfl (by omega) (by omega) (by rw [hfb9]; rfl) d_V_withoutEntry_52 ?_
          refine z_aas hx hb hK hS hAad3 oad3 rfl (z_anyE hK (ob9.grew hN.2)) i rfl (by omega) (by omega) d_V_withoutEntry_53 (fun H locs oad3 hz14 ho15 hS => ?_)
          have hN := hN.put hz14 ho15 hgbad3
          refine lv_iinc (v := (nI (i + 1))) (lv' := [(3, .int (nI (i + 1))), (2, .ref ad3), (0, .ref a), (1, .int (nI (clen (prc ch kv))))]) hx hb d_V_withoutEntry_54 hl (k := 0) rfl (nI_1 i) (by decide) rfl (fun ls hl => ?_)
          refine lv_goto (tgt := 28) hx hb d_V_withoutEntry_57 (by decide) ?_
          exact ih28 (i + 1) (by omega) (by omega) _ _ _ (fun j hj => (Nat.lt_or_eq_of_le (Nat.le_of_lt_succ hj)).elim (fun h8 => by rw [va_upN (by omega)]; exact hg j h8) (fun e8 => by rw [e8, va_upS, if_pos (by omega)]; exact hfb9.symm)) oad3 hN hS ls (lv_sub hl [0, 1, 2, 3] rfl)
  exact loop4 (clen ch - 1 + 1) 0 (by omega) (by omega) _ _ _ (fun j h9 => absurd h9 (by omega)) oad3 hN hS ls (lv_sub hl [0, 1, 2, 3] rfl)
abbrev b_V_withEntry : ByteArray := prog_1_method_52_code
abbrev y_V_withEntry : MethodName := ⟨"ValueTrees", "withEntry", "(LValueTrees$Tree;LValueTrees$Entry;)LValueTrees$Tree;"⟩
abbrev w_V_withEntry : List Cond := .code y_V_withEntry b_V_withEntry 6 (Option.some (.object "ValueTrees$Tree")) :: gt
theorem hd_V_withEntry : (y_V_withEntry).cls ≠ "java/lang/invoke/MethodHandle" ∧ (y_V_withEntry).cls ≠ "java/lang/invoke/VarHandle" ∧ (parseMethodDescriptor (y_V_withEntry).desc).map (fun d => d.parameters.length) = some 2 := by decide +kernel
theorem d_V_withEntry_0 : decode b_V_withEntry 0 = .ok (.aload_n 0, 1) := by decide +kernel
theorem d_V_withEntry_1 : decode b_V_withEntry 1 = .ok (.aload_n 1, 1) := by decide +kernel
theorem d_V_withEntry_2 : decode b_V_withEntry 2 = .ok (.getfield 203, 3) := by decide +kernel
theorem d_V_withEntry_5 : decode b_V_withEntry 5 = .ok (.invokestatic 165, 3) := by decide +kernel
theorem d_V_withEntry_8 : decode b_V_withEntry 8 = .ok (.istore_n 2, 1) := by decide +kernel
theorem d_V_withEntry_9 : decode b_V_withEntry 9 = .ok (.aload_n 0, 1) := by decide +kernel
theorem d_V_withEntry_10 : decode b_V_withEntry 10 = .ok (.iload_n 2, 1) := by decide +kernel
theorem d_V_withEntry_11 : decode b_V_withEntry 11 = .ok (.aload_n 1, 1) := by decide +kernel
theorem d_V_withEntry_12 : decode b_V_withEntry 12 = .ok (.getfield 203, 3) := by decide +kernel
theorem d_V_withEntry_15 : decode b_V_withEntry 15 = .ok (.invokestatic 169, 3) := by decide +kernel
theorem d_V_withEntry_18 : decode b_V_withEntry 18 = .ok (.ifCond .eq 11, 3) := by decide +kernel
theorem d_V_withEntry_21 : decode b_V_withEntry 21 = .ok (.aload_n 0, 1) := by decide +kernel
theorem d_V_withEntry_22 : decode b_V_withEntry 22 = .ok (.iload_n 2, 1) := by decide +kernel
theorem d_V_withEntry_23 : decode b_V_withEntry 23 = .ok (.invokestatic 173, 3) := by decide +kernel
theorem d_V_withEntry_26 : decode b_V_withEntry 26 = .ok (.goto 4, 3) := by decide +kernel
theorem d_V_withEntry_29 : decode b_V_withEntry 29 = .ok (.aload_n 0, 1) := by decide +kernel
theorem d_V_withEntry_30 : decode b_V_withEntry 30 = .ok (.astore_n 3, 1) := by decide +kernel
theorem d_V_withEntry_31 : decode b_V_withEntry 31 = .ok (.aload_n 3, 1) := by decide +kernel
theorem d_V_withEntry_32 : decode b_V_withEntry 32 = .ok (.getfield 196, 3) := by decide +kernel
theorem d_V_withEntry_35 : decode b_V_withEntry 35 = .ok (.arraylength, 1) := by decide +kernel
theorem d_V_withEntry_36 : decode b_V_withEntry 36 = .ok (.iconst 1, 1) := by decide +kernel
theorem d_V_withEntry_37 : decode b_V_withEntry 37 = .ok (.iadd, 1) := by decide +kernel
theorem d_V_withEntry_38 : decode b_V_withEntry 38 = .ok (.anewarray 120, 3) := by decide +kernel
theorem d_V_withEntry_41 : decode b_V_withEntry 41 = .ok (.astore 4, 2) := by decide +kernel
theorem d_V_withEntry_43 : decode b_V_withEntry 43 = .ok (.iconst 0, 1) := by decide +kernel
theorem d_V_withEntry_44 : decode b_V_withEntry 44 = .ok (.istore 5, 2) := by decide +kernel
theorem d_V_withEntry_46 : decode b_V_withEntry 46 = .ok (.iload 5, 2) := by decide +kernel
theorem d_V_withEntry_48 : decode b_V_withEntry 48 = .ok (.aload 4, 2) := by decide +kernel
theorem d_V_withEntry_50 : decode b_V_withEntry 50 = .ok (.arraylength, 1) := by decide +kernel
theorem d_V_withEntry_51 : decode b_V_withEntry 51 = .ok (.if_icmp .ge 49, 3) := by decide +kernel
theorem d_V_withEntry_54 : decode b_V_withEntry 54 = .ok (.iload 5, 2) := by decide +kernel
theorem d_V_withEntry_56 : decode b_V_withEntry 56 = .ok (.iload_n 2, 1) := by decide +kernel
theorem d_V_withEntry_57 : decode b_V_withEntry 57 = .ok (.if_icmp .ne 12, 3) := by decide +kernel
theorem d_V_withEntry_60 : decode b_V_withEntry 60 = .ok (.aload 4, 2) := by decide +kernel
theorem d_V_withEntry_62 : decode b_V_withEntry 62 = .ok (.iload 5, 2) := by decide +kernel
theorem d_V_withEntry_64 : decode b_V_withEntry 64 = .ok (.aload_n 1, 1) := by decide +kernel
theorem d_V_withEntry_65 : decode b_V_withEntry 65 = .ok (.aastore, 1) := by decide +kernel
theorem d_V_withEntry_66 : decode b_V_withEntry 66 = .ok (.goto 28, 3) := by decide +kernel
theorem d_V_withEntry_69 : decode b_V_withEntry 69 = .ok (.aload 4, 2) := by decide +kernel
theorem d_V_withEntry_71 : decode b_V_withEntry 71 = .ok (.iload 5, 2) := by decide +kernel
theorem d_V_withEntry_73 : decode b_V_withEntry 73 = .ok (.aload_n 3, 1) := by decide +kernel
theorem d_V_withEntry_74 : decode b_V_withEntry 74 = .ok (.getfield 196, 3) := by decide +kernel
theorem d_V_withEntry_77 : decode b_V_withEntry 77 = .ok (.iload 5, 2) := by decide +kernel
theorem d_V_withEntry_79 : decode b_V_withEntry 79 = .ok (.iload_n 2, 1) := by decide +kernel
theorem d_V_withEntry_80 : decode b_V_withEntry 80 = .ok (.if_icmp .ge 8, 3) := by decide +kernel
theorem d_V_withEntry_83 : decode b_V_withEntry 83 = .ok (.iload 5, 2) := by decide +kernel
theorem d_V_withEntry_85 : decode b_V_withEntry 85 = .ok (.goto 7, 3) := by decide +kernel
theorem d_V_withEntry_88 : decode b_V_withEntry 88 = .ok (.iload 5, 2) := by decide +kernel
theorem d_V_withEntry_90 : decode b_V_withEntry 90 = .ok (.iconst 1, 1) := by decide +kernel
theorem d_V_withEntry_91 : decode b_V_withEntry 91 = .ok (.isub, 1) := by decide +kernel
theorem d_V_withEntry_92 : decode b_V_withEntry 92 = .ok (.aaload, 1) := by decide +kernel
theorem d_V_withEntry_93 : decode b_V_withEntry 93 = .ok (.aastore, 1) := by decide +kernel
theorem d_V_withEntry_94 : decode b_V_withEntry 94 = .ok (.iinc 5 1, 3) := by decide +kernel
theorem d_V_withEntry_97 : decode b_V_withEntry 97 = .ok (.goto (-51), 3) := by decide +kernel
theorem d_V_withEntry_100 : decode b_V_withEntry 100 = .ok (.new 118, 3) := by decide +kernel
theorem d_V_withEntry_103 : decode b_V_withEntry 103 = .ok (.dup, 1) := by decide +kernel
theorem d_V_withEntry_104 : decode b_V_withEntry 104 = .ok (.aload_n 0, 1) := by decide +kernel
theorem d_V_withEntry_105 : decode b_V_withEntry 105 = .ok (.getfield 154, 3) := by decide +kernel
theorem d_V_withEntry_108 : decode b_V_withEntry 108 = .ok (.aload_n 3, 1) := by decide +kernel
theorem d_V_withEntry_109 : decode b_V_withEntry 109 = .ok (.getfield 264, 3) := by decide +kernel
theorem d_V_withEntry_112 : decode b_V_withEntry 112 = .ok (.aload_n 1, 1) := by decide +kernel
theorem d_V_withEntry_113 : decode b_V_withEntry 113 = .ok (.getfield 265, 3) := by decide +kernel
theorem d_V_withEntry_116 : decode b_V_withEntry 116 = .ok (.iadd, 1) := by decide +kernel
theorem d_V_withEntry_117 : decode b_V_withEntry 117 = .ok (.aload 4, 2) := by decide +kernel
theorem d_V_withEntry_119 : decode b_V_withEntry 119 = .ok (.invokespecial 122, 3) := by decide +kernel
theorem d_V_withEntry_122 : decode b_V_withEntry 122 = .ok (.areturn, 1) := by decide +kernel
set_option maxHeartbeats 4000000 in
set_option maxRecDepth 100000 in
theorem c_V_withEntry (l : Launch) (D : va_G) (dT : Nat → ClassId) (H : Heap) (Bq : Nat → Prop) (tb : Nat → TR) (tc : Nat) (hO : tOK tb tc) (a ea9 : Nat) (ex : VT) (ch kv : VT) (t : Nat) (htl : t < tc) (hwd : tW (tb t) = 12 ∨ tW (tb t) = 15 ∨ tW (tb t) = 16) (hwc : wty tb ch (cmd tb t) t) (hwk : wty tb kv 0 (lt_ tb t)) (hra : rv D dT Bq H (.pow (.neg ch) t) a) (hcl : (cs ch).length ≤ 160) (hwe : wen tb t ex) (hre : rq D dT Bq H ex 2 0 ea9 nf) (hke : kyOf ex = kv) (hle9 : (eb ex).length ≤ 400) (hBs : ∀ q, Bq q → q < H.size) : Met l y_V_withEntry w_V_withEntry ({ frames := 46, cells := 4, slots := 200, locals := 1772 }) (z_P D dT [.ref a, .ref ea9] H) (z_Q (fun q => H.size ≤ q) (fun v H1 => ∃ q, v = some (.ref q) ∧ H.size ≤ q ∧ rv D dT Bq H1 (.pow (.neg (app (prc ch kv) (.mul ex (rst ch kv)))) t) q)) 4 200 (fun q => H.size ≤ q) := by
  obtain ⟨ea, fe, oa, hna, oe, hne, hch⟩ := rv_neg.mp hra
  have htc := hO.1
  have hcle := clen_le hwc
  have hlt := (tl_some hO htl (by omega)).2.1
  have hcmp := tree_cmp hO htl hwd
  refine Met.ofW (cc := b_V_withEntry) (maxL := 6) (ret := (Option.some (.object "ValueTrees$Tree"))) (by decide) rfl ?_
  intro p e s m args below meth c s₁ B hml hv
  obtain ⟨rfl, rfl, hK⟩ := hv
  have hx := B.exec
  have hb := B.bytes
  have hr := B.returns
  have hts := atoms_spec (ws := w_V_withEntry) B.pre
  have ht : ∀ w9 ∈ gt, w9.before [.ref a, .ref ea9].toArray s = true := fun w9 h => hts w9 (List.mem_cons_of_mem _ h)
  have hown : s.vm.findClass "ValueTrees" = some m.cls := findClass_of_methodNamed B.named
  have hlocks := B.notSynchronized
  have hS : va_S (fun q => s.heap.size ≤ q) s.heap s.heap [] := va_S.rf
  have hl := lv_entry ([.ref a, .ref ea9]) (n := 6) (Nat.le_of_ble_eq_true rfl)
  rw [lg_entry_eq]
  generalize (lg_sl ([.ref a, .ref ea9]) ++ List.replicate (6 - (lg_sl ([.ref a, .ref ea9])).length) Slot.unset).toArray = ls at hl ⊢
  have hl : lv_has ls 6 [(0, .ref a), (1, .ref ea9)] := hl
  have hN : nU s.heap s.heap := nU.rf
  obtain ⟨b, vw, oe9, hnbe, -, hrk0, hvw⟩ := re_at hwe hre
  have hrk : rv D dT Bq s.heap kv b := by rw [← hke]; exact hrk0
  refine lv_aload_n hx hb d_V_withEntry_0 rfl (lv_at hl 0 rfl) ?_
  refine lv_aload_n hx hb d_V_withEntry_1 rfl (lv_at hl 1 rfl) ?_
  refine va_get (D := D) (ci := 8) (v := .ref b) (C := "ValueTrees$Entry") (T := T_Entry) (N := 3) hx hb ht in_Entry hown hK.1 (z_1 (oe9.grew hN.2)) 0 rfl rfl 0 (by decide) (ht _ q426) (fun _ h9 => h9) rfl d_V_withEntry_2 ?_
  refine z_callR (va_runS (As := [.ref a, .ref b]) (rest := []) ⟨hx, hb, hml, hown, hts⟩ (c_V_placeOf l D dT _ Bq tb tc hO a b ch kv t htl hwd hwc hwk (rq_up hN.2 hra) (rq_up hN.2 hrk) (by omega)) ⟨callB_of 2 hts (gI gd_up gd_c q443) rfl rfl rfl (ht _ q1) (ht _ q441) hd_V_placeOf ⟨Nat.le_of_ble_eq_true rfl, Nat.le_of_ble_eq_true rfl⟩, ht _ q442⟩ (z_preS hK) rfl rfl hl.1 rfl (lv_room (Nat.le_of_ble_eq_true rfl)) d_V_withEntry_5 ⟨Nat.zero_le _, Nat.zero_le _⟩) (fun v2 hv1 => ?_)
  subst hv1
  refine lv_istore_n (lv' := [(2, .int (nI (clen (prc ch kv)))), (0, .ref a), (1, .ref ea9)]) hx hb d_V_withEntry_8 rfl hl (by decide) rfl (fun ls hl => ?_)
  refine lv_aload_n hx hb d_V_withEntry_9 rfl (lv_at hl 1 rfl) ?_
  refine lv_iload_n hx hb d_V_withEntry_10 rfl (lv_at hl 0 rfl) ?_
  refine lv_aload_n hx hb d_V_withEntry_11 rfl (lv_at hl 2 rfl) ?_
  refine va_get (D := D) (ci := 8) (v := .ref b) (C := "ValueTrees$Entry") (T := T_Entry) (N := 3) hx hb ht in_Entry hown hK.1 (z_1 (oe9.grew hN.2)) 0 rfl rfl 0 (by decide) (ht _ q426) (fun _ h9 => h9) rfl d_V_withEntry_12 ?_
  refine z_callR (va_runS (As := [.ref a, .int (nI (clen (prc ch kv))), .ref b]) (rest := []) ⟨hx, hb, hml, hown, hts⟩ (c_V_isAt l D dT _ Bq tb tc hO a b ch kv t htl hwd hwc hwk (rq_up hN.2 hra) (rq_up hN.2 hrk) (by omega)) ⟨callB_of 3 hts (gI gd_up gd_c q466) rfl rfl rfl (ht _ q1) (ht _ q464) hd_V_isAt ⟨Nat.le_of_ble_eq_true rfl, Nat.le_of_ble_eq_true rfl⟩, ht _ q465⟩ (z_preS hK) rfl rfl hl.1 rfl (lv_room (Nat.le_of_ble_eq_true rfl)) d_V_withEntry_15 ⟨Nat.zero_le _, Nat.zero_le _⟩) (fun v4 hv3 => ?_)
  have hv3 : v4 = .int (if thr (skp ch kv) kv = true then 1 else 0) := hv3
  rcases Classical.em (thr (skp ch kv) kv = true) with hth | hth
  · rw [if_pos hth] at hv3
    subst hv3
    refine lv_if_eq (tgt := 29) hx hb d_V_withEntry_18 (by decide) (fun c6 => absurd c6 (by decide)) (fun _ => ?_)
    refine lv_aload_n hx hb d_V_withEntry_21 rfl (lv_at hl 1 rfl) ?_
    refine lv_iload_n hx hb d_V_withEntry_22 rfl (lv_at hl 0 rfl) ?_
    refine z_callQ (va_runS (As := [.ref a, .int (nI (clen (prc ch kv)))]) (rest := []) ⟨hx, hb, hml, hown, hts⟩ (c_V_withoutEntry l D dT _ Bq tb tc hO a b ch kv t htl hwd hwc hwk (rq_up hN.2 hra) (rq_up hN.2 hrk) (by omega) hBs hth) ⟨callB_of 2 hts (gI gd_up gd_c q469) rfl rfl rfl (ht _ q1) (ht _ q467) hd_V_withoutEntry ⟨Nat.le_of_ble_eq_true rfl, Nat.le_of_ble_eq_true rfl⟩, ht _ q468⟩ (z_preS hK) rfl rfl hl.1 rfl (lv_room (Nat.le_of_ble_eq_true rfl)) d_V_withEntry_23 ⟨(Nat.le_of_ble_eq_true rfl), (Nat.le_of_ble_eq_true rfl)⟩) hS (fun _ h9 => h9) (fun v8 Hb locs hv7 hz9 hf10 hS => ?_)
    obtain ⟨ad11, rfl, hgad11, hrvad11⟩ := hv7
    have hN := hN.call hz9 hf10 (fun x hx h9 => absurd (Nat.lt_of_lt_of_le hx hN.1) (Nat.not_lt.mpr h9))
    have oa := oa.grew hN.2
    have oe9 := oe9.grew hN.2
    have hre := rq_up hN.2 hre
    have hBs : ∀ q, Bq q → q < Hb.size := fun q h9 => Nat.lt_of_lt_of_le (hBs q h9) hN.1
    have hN : nU Hb Hb := nU.rf
    obtain ⟨O9, hO9⟩ : ∃ O, O = app (prc ch kv) (rst ch kv) := ⟨_, rfl⟩
    have hwO : wty tb O9 (cmd tb t) t := by rw [hO9]; exact (app_wty (rst_wty (k := kv) hwc) (wty_prc kv hwc)).1
    have hpO : clen (prc ch kv) ≤ clen O9 := by rw [hO9, clen_app]; omega
    have hln : (cs O9).length ≤ (cs ch).length := by
      rw [hO9, (app_wty (rst_wty (k := kv) hwc) (wty_prc kv hwc)).2, cs_split kv hwc, rst_t hth]
      obtain ⟨e8, r8, h8, -⟩ := skp_thr hwc hth
      rw [h8, cs_mul, List.length_append, List.length_append, List.length_append]
      show _ + (cs r8).length ≤ _
      omega
    rw [← hO9] at hrvad11
    obtain ⟨eo, fo, oo, -, oeo, -, hcho⟩ := rv_neg.mp hrvad11
    have hco := clen_le hwO
    refine W.eq (g2 := F0 m 26 ls [.ref ad11]) rfl ?_
    refine lv_goto (tgt := 30) hx hb d_V_withEntry_26 (by decide) ?_
    refine lv_astore_n (lv' := [(3, .ref ad11), (2, .int (nI (clen (prc ch kv)))), (0, .ref a), (1, .ref ea9)]) hx hb d_V_withEntry_30 rfl hl (by decide) rfl (fun ls hl => ?_)
    refine lv_aload_n hx hb d_V_withEntry_31 rfl (lv_at hl 0 rfl) ?_
    refine va_get (D := D) (ci := 7) (v := .ref eo) (C := "ValueTrees$Tree") (T := T_Tree) (N := 3) hx hb ht in_Tree hown hK.1 (z_1 (oo.grew hN.2)) 0 rfl rfl 2 (by decide) (ht _ q358) (fun _ h9 => h9) rfl d_V_withEntry_32 ?_
    refine z_alen hx hb hK (oeo.grew hN.2) rfl d_V_withEntry_35 ?_
    refine lv_iconst (v := 1) hx hb d_V_withEntry_36 (by decide) ?_
    refine lv_iadd hx hb d_V_withEntry_37 ?_
    rw [show (((nI (clen O9)) + 1) : Int32) = nI ((clen O9) + 1) from nI_add (clen O9) 1]
    have hSp := hS
    refine z_newq (C := "ValueTrees$Entry") hx hb hown (ht _ q351) hK (List.mem_of_getElem? (i := 2) rfl) 4 rfl hS (clen O9 + 1) rfl (by omega) (Nat.le_of_ble_eq_true rfl) (by show 0 + 90 + (clen O9 + 1) ≤ 200; omega) d_V_withEntry_38 (fun ad12 H hqad12 hzad12 oad12 hoad12 hS => ?_)
    have hgad12 : s.heap.size ≤ ad12 := by rw [hqad12]; exact hSp.1
    have hAad12 : (fun q => s.heap.size ≤ q) ad12 := hgad12
    have hgbad12 := Nat.le_trans hN.1 (Nat.le_of_eq hqad12.symm)
    have hN := hN.grew hzad12 hoad12
    refine lv_astore (lv' := [(4, .ref ad12), (3, .ref ad11), (2, .int (nI (clen (prc ch kv)))), (0, .ref a), (1, .ref ea9)]) hx hb d_V_withEntry_41 hl (by decide) rfl (fun ls hl => ?_)
    refine lv_iconst (v := 0) hx hb d_V_withEntry_43 (by decide) ?_
    refine lv_istore (lv' := [(5, .int 0), (4, .ref ad12), (3, .ref ad11), (2, .int (nI (clen (prc ch kv)))), (0, .ref a), (1, .ref ea9)]) hx hb d_V_withEntry_44 hl (by decide) rfl (fun ls hl => ?_)
    have loop13 : ∀ (n469 : Nat) (i : Nat), (i ≤ clen O9 + 1) → (clen O9 + 1) - i < n469 → ∀ (H : Heap) (locs : List Loc) (g : Nat → Option Nat), (∀ j, j < i → g j = if j = (clen (prc ch kv)) then some ea9 else fo (if j < (clen (prc ch kv)) then j else j - 1)) → va_at D cls (ad12, .inl (dT 4, clen O9 + 1, .inr (.inr (.inr (.inr g))))) H → nU Hb H → va_S (fun q => s.heap.size ≤ q) s.heap H locs → ∀ (ls : Array Slot), lv_has ls 6 [(5, .int (nI i)), (4, .ref ad12), (3, .ref ad11), (2, .int (nI (clen (prc ch kv)))), (0, .ref a), (1, .ref ea9)] → W p l e (headSpec w_V_withEntry ({ frames := 46, cells := 4, slots := 200, locals := 1772 })).room s m [.ref a, .ref ea9].toArray below meth c H locs (0 + 2 + 1) (0 + 90 + (clen O9 + 1)) (MQ below (z_Q (fun q => s.heap.size ≤ q) (fun v H1 => ∃ q, v = some (.ref q) ∧ s.heap.size ≤ q ∧ rv D dT Bq H1 (.pow (.neg (app (prc ch kv) (.mul ex (rst ch kv)))) t) q)) [.ref a, .ref ea9].toArray s 4 200 (fun q => s.heap.size ≤ q)) (F0 m 46 ls []) := by
      intro n469
      induction n469 with
      | zero =>
        intro i hi h469
        exact absurd h469 (Nat.not_lt_zero _)
      | succ n469 ih46 =>
        intro i hi h469 H locs g hg oad12 hN hS ls hl
        refine lv_iload hx hb d_V_withEntry_46 (lv_at hl 0 rfl) ?_
        refine lv_aload hx hb d_V_withEntry_48 (lv_at hl 1 rfl) ?_
        refine z_alen hx hb hK oad12 rfl d_V_withEntry_50 ?_
        refine lv_icmp_ge (tgt := 100) hx hb d_V_withEntry_51 (by decide) (fun c14 => ?_) (fun c14 => ?_)
        · have nc14 : (clen O9 + 1) ≤ i := (nI_leI (a := (clen O9 + 1)) (b := i) (by omega) (by omega)).mp c14
          have hSp := hS
          refine z_newo (ci := 7) hx hb ht in_Tree ty_Tree tyk_Tree hown (ht _ q349) (ht _ q350) (ht _ q18) hK hS rfl fs_Tree (Nat.le_of_ble_eq_true rfl) (by show 0 + 90 + (clen O9 + 1) + 3 ≤ 200; omega) d_V_withEntry_100 (fun ad15 H hqad15 hzad15 oad15 hoad15 hS => ?_)
          have nead12ad15 : ad12 ≠ ad15 := by rw [hqad15]; exact Nat.ne_of_lt oad12.lt
          have oad12 := oad12.grew hoad15
          have hgad15 : s.heap.size ≤ ad15 := by rw [hqad15]; exact hSp.1
          have hAad15 : (fun q => s.heap.size ≤ q) ad15 := hgad15
          have hgbad15 := Nat.le_trans hN.1 (Nat.le_of_eq hqad15.symm)
          have hN := hN.grew hzad15 hoad15
          refine lv_dup hx hb d_V_withEntry_103 rfl ?_
          refine lv_aload_n hx hb d_V_withEntry_104 rfl (lv_at hl 4 rfl) ?_
          refine va_get (D := D) (ci := 7) (v := .int (nI t)) (C := "ValueTrees$Tree") (T := T_Tree) (N := 3) hx hb ht in_Tree hown hK.1 (z_1 (oa.grew hN.2)) 0 rfl rfl 0 (by decide) (ht _ q237) (u_same (ht _ q238)) rfl d_V_withEntry_105 ?_
          refine lv_aload_n hx hb d_V_withEntry_108 rfl (lv_at hl 2 rfl) ?_
          refine va_get (D := D) (ci := 7) (v := .int (wlen (.neg O9) t)) (C := "ValueTrees$Tree") (T := T_Tree) (N := 3) hx hb ht in_Tree hown hK.1 (z_1 (oo.grew hN.2)) 0 rfl rfl 1 (by decide) (ht _ q247) (u_same (ht _ q248)) rfl d_V_withEntry_109 ?_
          refine lv_aload_n hx hb d_V_withEntry_112 rfl (lv_at hl 5 rfl) ?_
          refine va_get (D := D) (ci := 8) (v := .int (nI (eb ex).length)) (C := "ValueTrees$Entry") (T := T_Entry) (N := 3) hx hb ht in_Entry hown hK.1 (z_1 (oe9.grew hN.2)) 0 rfl rfl 2 (by decide) (ht _ q430) (fun _ h9 => h9) rfl d_V_withEntry_113 ?_
          refine lv_iadd hx hb d_V_withEntry_116 ?_
          rw [show (((wlen (.neg O9) t) + (nI (eb ex).length)) : Int32) = nI (5 + (cs O9).length + (eb ex).length) from (by unfold wlen; rw [l_neg]; exact nI_add _ _)]
          refine lv_aload hx hb d_V_withEntry_117 (lv_at hl 1 rfl) ?_
          refine z_callQ (va_runI (As := [.int (nI t), .int (nI (5 + (cs O9).length + (eb ex).length)), .ref ad12]) (rest := [.ref ad15]) ⟨hx, hb, hml, hown, hts⟩ (c_Tree_init l D dT _ ad15 oad15 (nI t) (nI (5 + (cs O9).length + (eb ex).length)) ad12) ⟨callB_of 3 hts (gI gd_up gd_c q355) rfl rfl rfl (ht _ q18) (ht _ q353) hd_Tree_init ⟨Nat.le_of_ble_eq_true rfl, Nat.le_of_ble_eq_true rfl⟩, rfl, ht _ q354⟩ (z_preS hK) rfl rfl hl.1 rfl (lv_room (Nat.le_of_ble_eq_true rfl)) d_V_withEntry_119 ⟨(Nat.le_of_ble_eq_true rfl), by show 0 + 90 + (clen O9 + 1) + 3 + 0 ≤ 200; omega⟩) hS (fun q9 h9 => by rw [show q9 = ad15 from h9]; exact hAad15) (fun v17 H locs hv16 hz18 hf19 hS => ?_)
          obtain ⟨rfl, oad15⟩ := hv16
          have oad15 : va_at D cls (ad15, .inr (7, [.int (nI t), .int (nI (5 + (cs O9).length + (eb ex).length)), .ref ad12])) H := oad15
          have oad12 := oad12.kept (hf19 _ oad12.lt (fun h9 => nead12ad15 h9))
          have hN := hN.call hz18 hf19 (fun x hx h9 => by have h8 : x = ad15 := h9; omega)
          refine W.eq (g2 := F0 m 122 ls [.ref ad15]) rfl ?_
          refine z_aretQ hx hb hr hlocks d_V_withEntry_122 (Or.inl ⟨_, rfl⟩) (Or.inr ⟨_, rfl⟩) hS (Nat.le_of_ble_eq_true rfl) (by show 0 + 90 + (clen O9 + 1) + 3 + 0 ≤ 200; omega) ?_
          refine ⟨ad15, rfl, hgad15, ?_⟩
          have hw9 := app_wty (wty_cons hwe (rst_wty (k := kv) hwc)) (wty_prc kv hwc)
          have hwa := (app_wty (rst_wty (k := kv) hwc) (wty_prc kv hwc)).2
          have hcn : clen (app (prc ch kv) (.mul ex (rst ch kv))) = clen O9 + 1 := by rw [hO9, clen_app, clen_app]; show _ + (clen (rst ch kv) + 1) = _; omega
          refine rv_neg.mpr ⟨ad12, g, ?_, fun h9 => absurd (hBs _ h9) (Nat.not_lt.mpr hgbad15), ?_, fun h9 => absurd (hBs _ h9) (Nat.not_lt.mpr hgbad12), rc_of hw9.1 (fun k9 e8 hk9 => ?_)⟩
          · have hle : wlen (.neg (app (prc ch kv) (.mul ex (rst ch kv)))) t = nI (5 + (cs O9).length + (eb ex).length) := by
              unfold wlen
              rw [l_neg, hw9.2, hO9, hwa, cs_mul, List.length_append, List.length_append, List.length_append]
              congr 1; omega
            rw [hle]; exact oad15
          · rw [hcn]; exact oad12
          · have h5 := nth_some hk9
            rw [nth_ins, ← hO9] at hk9
            by_cases hp9 : k9 = clen (prc ch kv)
            · rw [if_pos hp9] at hk9
              cases hk9
              refine ⟨ea9, ?_, rq_up hN.2 hre⟩
              rw [Nat.zero_add, hg k9 (by omega), if_pos hp9]
            · rw [if_neg hp9] at hk9
              obtain ⟨b8, h8, h6⟩ := rc_nth hcho hk9
              refine ⟨b8, ?_, rq_up hN.2 h6⟩
              rw [Nat.zero_add] at h8 ⊢
              rw [hg k9 (by omega), if_neg hp9]; exact h8
        · have nc14 : ¬ (clen O9 + 1) ≤ i := fun h9 => c14 ((nI_leI (a := (clen O9 + 1)) (b := i) (by omega) (by omega)).mpr h9)
          refine lv_iload hx hb d_V_withEntry_54 (lv_at hl 0 rfl) ?_
          refine lv_iload_n hx hb d_V_withEntry_56 rfl (lv_at hl 3 rfl) ?_
          refine lv_icmp_ne (tgt := 69) hx hb d_V_withEntry_57 (by decide) (fun c20 => ?_) (fun c20 => ?_)
          · have nc20 : ¬ i = (clen (prc ch kv)) := fun h9 => c20 ((nI_eq (a := i) (b := (clen (prc ch kv))) (by omega) (by omega)).mpr h9)
            refine lv_aload hx hb d_V_withEntry_69 (lv_at hl 1 rfl) ?_
            refine lv_iload hx hb d_V_withEntry_71 (lv_at hl 0 rfl) ?_
            refine lv_aload_n hx hb d_V_withEntry_73 rfl (lv_at hl 2 rfl) ?_
            refine va_get (D := D) (ci := 7) (v := .ref eo) (C := "ValueTrees$Tree") (T := T_Tree) (N := 3) hx hb ht in_Tree hown hK.1 (z_1 (oo.grew hN.2)) 0 rfl rfl 2 (by decide) (ht _ q358) (fun _ h9 => h9) rfl d_V_withEntry_74 ?_
            refine lv_iload hx hb d_V_withEntry_77 (lv_at hl 0 rfl) ?_
            refine lv_iload_n hx hb d_V_withEntry_79 rfl (lv_at hl 3 rfl) ?_
            refine lv_icmp_ge (tgt := 88) hx hb d_V_withEntry_80 (by decide) (fun c21 => ?_) (fun c21 => ?_)
            · have nc21 : (clen (prc ch kv)) ≤ i := (nI_leI (a := (clen (prc ch kv))) (b := i) (by omega) (by omega)).mp c21
              refine lv_iload hx hb d_V_withEntry_88 (lv_at hl 0 rfl) ?_
              refine lv_iconst (v := 1) hx hb d_V_withEntry_90 (by decide) ?_
              refine lv_isub hx hb d_V_withEntry_91 ?_
              rw [show (((nI i) - 1) : Int32) = nI (i - 1) from pk_sub (a := i) (b := 1) (by omega)]
              obtain ⟨e9, hn9, hwe9, hel9⟩ := nth_lt hwO (k := i - 1) (by omega)
              obtain ⟨b9, hfb9, hrb9⟩ := rc_nth hcho hn9
              rw [Nat.zero_add] at hfb9
              obtain ⟨ka9, vv9, ob9, hnb9, -⟩ := re_at hwe9 hrb9
              refine z_aald (v := .ref b9) hx hb hK (oeo.grew hN.2) rfl (i - 1) rfl (by omega) (by omega) (by rw [hfb9]; rfl) d_V_withEntry_92 ?_
              refine z_aas hx hb hK hS hAad12 oad12 rfl (z_anyE hK (ob9.grew hN.2)) i rfl (by omega) (by omega) d_V_withEntry_93 (fun H locs oad12 hz22 ho23 hS => ?_)
              have hN := hN.put hz22 ho23 hgbad12
              refine lv_iinc (v := (nI (i + 1))) (lv' := [(5, .int (nI (i + 1))), (4, .ref ad12), (3, .ref ad11), (2, .int (nI (clen (prc ch kv)))), (0, .ref a), (1, .ref ea9)]) hx hb d_V_withEntry_94 hl (k := 0) rfl (nI_1 i) (by decide) rfl (fun ls hl => ?_)
              refine lv_goto (tgt := 46) hx hb d_V_withEntry_97 (by decide) ?_
              exact ih46 (i + 1) (by omega) (by omega) _ _ _ (fun j hj => (Nat.lt_or_eq_of_le (Nat.le_of_lt_succ hj)).elim (fun h8 => by rw [va_upN (by omega)]; exact hg j h8) (fun e8 => by rw [e8, va_upS, if_neg (by omega), if_neg (by omega)]; exact hfb9.symm)) oad12 hN hS ls (lv_sub hl [0, 1, 2, 3, 4, 5] rfl)
            · have nc21 : ¬ (clen (prc ch kv)) ≤ i := fun h9 => c21 ((nI_leI (a := (clen (prc ch kv))) (b := i) (by omega) (by omega)).mpr h9)
              refine lv_iload hx hb d_V_withEntry_83 (lv_at hl 0 rfl) ?_
              refine lv_goto (tgt := 92) hx hb d_V_withEntry_85 (by decide) ?_
              obtain ⟨e9, hn9, hwe9, hel9⟩ := nth_lt hwO (k := i) (by omega)
              obtain ⟨b9, hfb9, hrb9⟩ := rc_nth hcho hn9
              rw [Nat.zero_add] at hfb9
              obtain ⟨ka9, vv9, ob9, hnb9, -⟩ := re_at hwe9 hrb9
              refine z_aald (v := .ref b9) hx hb hK (oeo.grew hN.2) rfl i rfl (by omega) (by omega) (by rw [hfb9]; rfl) d_V_withEntry_92 ?_
              refine z_aas hx hb hK hS hAad12 oad12 rfl (z_anyE hK (ob9.grew hN.2)) i rfl (by omega) (by omega) d_V_withEntry_93 (fun H locs oad12 hz24 ho25 hS => ?_)
              have hN := hN.put hz24 ho25 hgbad12
              refine lv_iinc (v := (nI (i + 1))) (lv' := [(5, .int (nI (i + 1))), (4, .ref ad12), (3, .ref ad11), (2, .int (nI (clen (prc ch kv)))), (0, .ref a), (1, .ref ea9)]) hx hb d_V_withEntry_94 hl (k := 0) rfl (nI_1 i) (by decide) rfl (fun ls hl => ?_)
              refine lv_goto (tgt := 46) hx hb d_V_withEntry_97 (by decide) ?_
              exact ih46 (i + 1) (by omega) (by omega) _ _ _ (fun j hj => (Nat.lt_or_eq_of_le (Nat.le_of_lt_succ hj)).elim (fun h8 => by rw [va_upN (by omega)]; exact hg j h8) (fun e8 => by rw [e8, va_upS, if_neg (by omega), if_pos (by omega)]; exact hfb9.symm)) oad12 hN hS ls (lv_sub hl [0, 1, 2, 3, 4, 5] rfl)
          · have nc20 : i = (clen (prc ch kv)) := (nI_eq (a := i) (b := (clen (prc ch kv))) (by omega) (by omega)).mp c20
            refine lv_aload hx hb d_V_withEntry_60 (lv_at hl 1 rfl) ?_
            refine lv_iload hx hb d_V_withEntry_62 (lv_at hl 0 rfl) ?_
            refine lv_aload_n hx hb d_V_withEntry_64 rfl (lv_at hl 5 rfl) ?_
            refine z_aas hx hb hK hS hAad12 oad12 rfl (z_anyE hK (oe9.grew hN.2)) i rfl (by omega) (by omega) d_V_withEntry_65 (fun H locs oad12 hz26 ho27 hS => ?_)
            have hN := hN.put hz26 ho27 hgbad12
            refine lv_goto (tgt := 94) hx hb d_V_withEntry_66 (by decide) ?_
            refine lv_iinc (v := (nI (i + 1))) (lv' := [(5, .int (nI (i + 1))), (4, .ref ad12), (3, .ref ad11), (2, .int (nI (clen (prc ch kv)))), (0, .ref a), (1, .ref ea9)]) hx hb d_V_withEntry_94 hl (k := 0) rfl (nI_1 i) (by decide) rfl (fun ls hl => ?_)
            refine lv_goto (tgt := 46) hx hb d_V_withEntry_97 (by decide) ?_
            exact ih46 (i + 1) (by omega) (by omega) _ _ _ (fun j hj => (Nat.lt_or_eq_of_le (Nat.le_of_lt_succ hj)).elim (fun h8 => by rw [va_upN (by omega)]; exact hg j h8) (fun e8 => by rw [e8, va_upS, if_pos nc20])) oad12 hN hS ls (lv_sub hl [0, 1, 2, 3, 4, 5] rfl)
    exact loop13 (clen O9 + 1 + 1) 0 (by omega) (by omega) _ _ _ (fun j h9 => absurd h9 (by omega)) oad12 hN hS ls (lv_sub hl [0, 1, 2, 3, 4, 5] rfl)
  · rw [if_neg hth] at hv3
    subst hv3
    refine lv_if_eq (tgt := 29) hx hb d_V_withEntry_18 (by decide) (fun _ => ?_) (fun c28 => absurd c28 (by decide))
    obtain ⟨O9, hO9⟩ : ∃ O, O = app (prc ch kv) (rst ch kv) := ⟨_, rfl⟩
    have hwO : wty tb O9 (cmd tb t) t := by rw [hO9]; exact (app_wty (rst_wty (k := kv) hwc) (wty_prc kv hwc)).1
    have hpO : clen (prc ch kv) ≤ clen O9 := by rw [hO9, clen_app]; omega
    have eO : ch = O9 := by rw [hO9, rst_f hth, app_back]
    have hln : (cs O9).length ≤ (cs ch).length := by rw [← eO]; omega
    have hro : rv D dT Bq s.heap (.pow (.neg O9) t) a := by rw [← eO]; exact hra
    obtain ⟨eo, fo, oo, -, oeo, -, hcho⟩ := rv_neg.mp hro
    have hco := clen_le hwO
    refine lv_aload_n hx hb d_V_withEntry_29 rfl (lv_at hl 1 rfl) ?_
    refine lv_astore_n (lv' := [(3, .ref a), (2, .int (nI (clen (prc ch kv)))), (0, .ref a), (1, .ref ea9)]) hx hb d_V_withEntry_30 rfl hl (by decide) rfl (fun ls hl => ?_)
    refine lv_aload_n hx hb d_V_withEntry_31 rfl (lv_at hl 0 rfl) ?_
    refine va_get (D := D) (ci := 7) (v := .ref eo) (C := "ValueTrees$Tree") (T := T_Tree) (N := 3) hx hb ht in_Tree hown hK.1 (z_1 (oo.grew hN.2)) 0 rfl rfl 2 (by decide) (ht _ q358) (fun _ h9 => h9) rfl d_V_withEntry_32 ?_
    refine z_alen hx hb hK (oeo.grew hN.2) rfl d_V_withEntry_35 ?_
    refine lv_iconst (v := 1) hx hb d_V_withEntry_36 (by decide) ?_
    refine lv_iadd hx hb d_V_withEntry_37 ?_
    rw [show (((nI (clen O9)) + 1) : Int32) = nI ((clen O9) + 1) from nI_add (clen O9) 1]
    have hSp := hS
    refine z_newq (C := "ValueTrees$Entry") hx hb hown (ht _ q351) hK (List.mem_of_getElem? (i := 2) rfl) 4 rfl hS (clen O9 + 1) rfl (by omega) (Nat.le_of_ble_eq_true rfl) (by show 0 + (clen O9 + 1) ≤ 200; omega) d_V_withEntry_38 (fun ad29 H hqad29 hzad29 oad29 hoad29 hS => ?_)
    have hgad29 : s.heap.size ≤ ad29 := by rw [hqad29]; exact hSp.1
    have hAad29 : (fun q => s.heap.size ≤ q) ad29 := hgad29
    have hgbad29 := Nat.le_trans hN.1 (Nat.le_of_eq hqad29.symm)
    have hN := hN.grew hzad29 hoad29
    refine lv_astore (lv' := [(4, .ref ad29), (3, .ref a), (2, .int (nI (clen (prc ch kv)))), (0, .ref a), (1, .ref ea9)]) hx hb d_V_withEntry_41 hl (by decide) rfl (fun ls hl => ?_)
    refine lv_iconst (v := 0) hx hb d_V_withEntry_43 (by decide) ?_
    refine lv_istore (lv' := [(5, .int 0), (4, .ref ad29), (3, .ref a), (2, .int (nI (clen (prc ch kv)))), (0, .ref a), (1, .ref ea9)]) hx hb d_V_withEntry_44 hl (by decide) rfl (fun ls hl => ?_)
    have loop30 : ∀ (n469 : Nat) (i : Nat), (i ≤ clen O9 + 1) → (clen O9 + 1) - i < n469 → ∀ (H : Heap) (locs : List Loc) (g : Nat → Option Nat), (∀ j, j < i → g j = if j = (clen (prc ch kv)) then some ea9 else fo (if j < (clen (prc ch kv)) then j else j - 1)) → va_at D cls (ad29, .inl (dT 4, clen O9 + 1, .inr (.inr (.inr (.inr g))))) H → nU s.heap H → va_S (fun q => s.heap.size ≤ q) s.heap H locs → ∀ (ls : Array Slot), lv_has ls 6 [(5, .int (nI i)), (4, .ref ad29), (3, .ref a), (2, .int (nI (clen (prc ch kv)))), (0, .ref a), (1, .ref ea9)] → W p l e (headSpec w_V_withEntry ({ frames := 46, cells := 4, slots := 200, locals := 1772 })).room s m [.ref a, .ref ea9].toArray below meth c H locs (0 + 1) (0 + (clen O9 + 1)) (MQ below (z_Q (fun q => s.heap.size ≤ q) (fun v H1 => ∃ q, v = some (.ref q) ∧ s.heap.size ≤ q ∧ rv D dT Bq H1 (.pow (.neg (app (prc ch kv) (.mul ex (rst ch kv)))) t) q)) [.ref a, .ref ea9].toArray s 4 200 (fun q => s.heap.size ≤ q)) (F0 m 46 ls []) := by
      intro n469
      induction n469 with
      | zero =>
        intro i hi h469
        exact absurd h469 (Nat.not_lt_zero _)
      | succ n469 ih46 =>
        intro i hi h469 H locs g hg oad29 hN hS ls hl
        refine lv_iload hx hb d_V_withEntry_46 (lv_at hl 0 rfl) ?_
        refine lv_aload hx hb d_V_withEntry_48 (lv_at hl 1 rfl) ?_
        refine z_alen hx hb hK oad29 rfl d_V_withEntry_50 ?_
        refine lv_icmp_ge (tgt := 100) hx hb d_V_withEntry_51 (by decide) (fun c31 => ?_) (fun c31 => ?_)
        · have nc31 : (clen O9 + 1) ≤ i := (nI_leI (a := (clen O9 + 1)) (b := i) (by omega) (by omega)).mp c31
          have hSp := hS
          refine z_newo (ci := 7) hx hb ht in_Tree ty_Tree tyk_Tree hown (ht _ q349) (ht _ q350) (ht _ q18) hK hS rfl fs_Tree (Nat.le_of_ble_eq_true rfl) (by show 0 + (clen O9 + 1) + 3 ≤ 200; omega) d_V_withEntry_100 (fun ad32 H hqad32 hzad32 oad32 hoad32 hS => ?_)
          have nead29ad32 : ad29 ≠ ad32 := by rw [hqad32]; exact Nat.ne_of_lt oad29.lt
          have oad29 := oad29.grew hoad32
          have hgad32 : s.heap.size ≤ ad32 := by rw [hqad32]; exact hSp.1
          have hAad32 : (fun q => s.heap.size ≤ q) ad32 := hgad32
          have hgbad32 := Nat.le_trans hN.1 (Nat.le_of_eq hqad32.symm)
          have hN := hN.grew hzad32 hoad32
          refine lv_dup hx hb d_V_withEntry_103 rfl ?_
          refine lv_aload_n hx hb d_V_withEntry_104 rfl (lv_at hl 4 rfl) ?_
          refine va_get (D := D) (ci := 7) (v := .int (nI t)) (C := "ValueTrees$Tree") (T := T_Tree) (N := 3) hx hb ht in_Tree hown hK.1 (z_1 (oo.grew hN.2)) 0 rfl rfl 0 (by decide) (ht _ q237) (u_same (ht _ q238)) rfl d_V_withEntry_105 ?_
          refine lv_aload_n hx hb d_V_withEntry_108 rfl (lv_at hl 2 rfl) ?_
          refine va_get (D := D) (ci := 7) (v := .int (wlen (.neg O9) t)) (C := "ValueTrees$Tree") (T := T_Tree) (N := 3) hx hb ht in_Tree hown hK.1 (z_1 (oo.grew hN.2)) 0 rfl rfl 1 (by decide) (ht _ q247) (u_same (ht _ q248)) rfl d_V_withEntry_109 ?_
          refine lv_aload_n hx hb d_V_withEntry_112 rfl (lv_at hl 5 rfl) ?_
          refine va_get (D := D) (ci := 8) (v := .int (nI (eb ex).length)) (C := "ValueTrees$Entry") (T := T_Entry) (N := 3) hx hb ht in_Entry hown hK.1 (z_1 (oe9.grew hN.2)) 0 rfl rfl 2 (by decide) (ht _ q430) (fun _ h9 => h9) rfl d_V_withEntry_113 ?_
          refine lv_iadd hx hb d_V_withEntry_116 ?_
          rw [show (((wlen (.neg O9) t) + (nI (eb ex).length)) : Int32) = nI (5 + (cs O9).length + (eb ex).length) from (by unfold wlen; rw [l_neg]; exact nI_add _ _)]
          refine lv_aload hx hb d_V_withEntry_117 (lv_at hl 1 rfl) ?_
          refine z_callQ (va_runI (As := [.int (nI t), .int (nI (5 + (cs O9).length + (eb ex).length)), .ref ad29]) (rest := [.ref ad32]) ⟨hx, hb, hml, hown, hts⟩ (c_Tree_init l D dT _ ad32 oad32 (nI t) (nI (5 + (cs O9).length + (eb ex).length)) ad29) ⟨callB_of 3 hts (gI gd_up gd_c q355) rfl rfl rfl (ht _ q18) (ht _ q353) hd_Tree_init ⟨Nat.le_of_ble_eq_true rfl, Nat.le_of_ble_eq_true rfl⟩, rfl, ht _ q354⟩ (z_preS hK) rfl rfl hl.1 rfl (lv_room (Nat.le_of_ble_eq_true rfl)) d_V_withEntry_119 ⟨(Nat.le_of_ble_eq_true rfl), by show 0 + (clen O9 + 1) + 3 + 0 ≤ 200; omega⟩) hS (fun q9 h9 => by rw [show q9 = ad32 from h9]; exact hAad32) (fun v34 H locs hv33 hz35 hf36 hS => ?_)
          obtain ⟨rfl, oad32⟩ := hv33
          have oad32 : va_at D cls (ad32, .inr (7, [.int (nI t), .int (nI (5 + (cs O9).length + (eb ex).length)), .ref ad29])) H := oad32
          have oad29 := oad29.kept (hf36 _ oad29.lt (fun h9 => nead29ad32 h9))
          have hN := hN.call hz35 hf36 (fun x hx h9 => by have h8 : x = ad32 := h9; omega)
          refine W.eq (g2 := F0 m 122 ls [.ref ad32]) rfl ?_
          refine z_aretQ hx hb hr hlocks d_V_withEntry_122 (Or.inl ⟨_, rfl⟩) (Or.inr ⟨_, rfl⟩) hS (Nat.le_of_ble_eq_true rfl) (by show 0 + (clen O9 + 1) + 3 + 0 ≤ 200; omega) ?_
          refine ⟨ad32, rfl, hgad32, ?_⟩
          have hw9 := app_wty (wty_cons hwe (rst_wty (k := kv) hwc)) (wty_prc kv hwc)
          have hwa := (app_wty (rst_wty (k := kv) hwc) (wty_prc kv hwc)).2
          have hcn : clen (app (prc ch kv) (.mul ex (rst ch kv))) = clen O9 + 1 := by rw [hO9, clen_app, clen_app]; show _ + (clen (rst ch kv) + 1) = _; omega
          refine rv_neg.mpr ⟨ad29, g, ?_, fun h9 => absurd (hBs _ h9) (Nat.not_lt.mpr hgbad32), ?_, fun h9 => absurd (hBs _ h9) (Nat.not_lt.mpr hgbad29), rc_of hw9.1 (fun k9 e8 hk9 => ?_)⟩
          · have hle : wlen (.neg (app (prc ch kv) (.mul ex (rst ch kv)))) t = nI (5 + (cs O9).length + (eb ex).length) := by
              unfold wlen
              rw [l_neg, hw9.2, hO9, hwa, cs_mul, List.length_append, List.length_append, List.length_append]
              congr 1; omega
            rw [hle]; exact oad32
          · rw [hcn]; exact oad29
          · have h5 := nth_some hk9
            rw [nth_ins, ← hO9] at hk9
            by_cases hp9 : k9 = clen (prc ch kv)
            · rw [if_pos hp9] at hk9
              cases hk9
              refine ⟨ea9, ?_, rq_up hN.2 hre⟩
              rw [Nat.zero_add, hg k9 (by omega), if_pos hp9]
            · rw [if_neg hp9] at hk9
              obtain ⟨b8, h8, h6⟩ := rc_nth hcho hk9
              refine ⟨b8, ?_, rq_up hN.2 h6⟩
              rw [Nat.zero_add] at h8 ⊢
              rw [hg k9 (by omega), if_neg hp9]; exact h8
        · have nc31 : ¬ (clen O9 + 1) ≤ i := fun h9 => c31 ((nI_leI (a := (clen O9 + 1)) (b := i) (by omega) (by omega)).mpr h9)
          refine lv_iload hx hb d_V_withEntry_54 (lv_at hl 0 rfl) ?_
          refine lv_iload_n hx hb d_V_withEntry_56 rfl (lv_at hl 3 rfl) ?_
          refine lv_icmp_ne (tgt := 69) hx hb d_V_withEntry_57 (by decide) (fun c37 => ?_) (fun c37 => ?_)
          · have nc37 : ¬ i = (clen (prc ch kv)) := fun h9 => c37 ((nI_eq (a := i) (b := (clen (prc ch kv))) (by omega) (by omega)).mpr h9)
            refine lv_aload hx hb d_V_withEntry_69 (lv_at hl 1 rfl) ?_
            refine lv_iload hx hb d_V_withEntry_71 (lv_at hl 0 rfl) ?_
            refine lv_aload_n hx hb d_V_withEntry_73 rfl (lv_at hl 2 rfl) ?_
            refine va_get (D := D) (ci := 7) (v := .ref eo) (C := "ValueTrees$Tree") (T := T_Tree) (N := 3) hx hb ht in_Tree hown hK.1 (z_1 (oo.grew hN.2)) 0 rfl rfl 2 (by decide) (ht _ q358) (fun _ h9 => h9) rfl d_V_withEntry_74 ?_
            refine lv_iload hx hb d_V_withEntry_77 (lv_at hl 0 rfl) ?_
            refine lv_iload_n hx hb d_V_withEntry_79 rfl (lv_at hl 3 rfl) ?_
            refine lv_icmp_ge (tgt := 88) hx hb d_V_withEntry_80 (by decide) (fun c38 => ?_) (fun c38 => ?_)
            · have nc38 : (clen (prc ch kv)) ≤ i := (nI_leI (a := (clen (prc ch kv))) (b := i) (by omega) (by omega)).mp c38
              refine lv_iload hx hb d_V_withEntry_88 (lv_at hl 0 rfl) ?_
              refine lv_iconst (v := 1) hx hb d_V_withEntry_90 (by decide) ?_
              refine lv_isub hx hb d_V_withEntry_91 ?_
              rw [show (((nI i) - 1) : Int32) = nI (i - 1) from pk_sub (a := i) (b := 1) (by omega)]
              obtain ⟨e9, hn9, hwe9, hel9⟩ := nth_lt hwO (k := i - 1) (by omega)
              obtain ⟨b9, hfb9, hrb9⟩ := rc_nth hcho hn9
              rw [Nat.zero_add] at hfb9
              obtain ⟨ka9, vv9, ob9, hnb9, -⟩ := re_at hwe9 hrb9
              refine z_aald (v := .ref b9) hx hb hK (oeo.grew hN.2) rfl (i - 1) rfl (by omega) (by omega) (by rw [hfb9]; rfl) d_V_withEntry_92 ?_
              refine z_aas hx hb hK hS hAad29 oad29 rfl (z_anyE hK (ob9.grew hN.2)) i rfl (by omega) (by omega) d_V_withEntry_93 (fun H locs oad29 hz39 ho40 hS => ?_)
              have hN := hN.put hz39 ho40 hgbad29
              refine lv_iinc (v := (nI (i + 1))) (lv' := [(5, .int (nI (i + 1))), (4, .ref ad29), (3, .ref a), (2, .int (nI (clen (prc ch kv)))), (0, .ref a), (1, .ref ea9)]) hx hb d_V_withEntry_94 hl (k := 0) rfl (nI_1 i) (by decide) rfl (fun ls hl => ?_)
              refine lv_goto (tgt := 46) hx hb d_V_withEntry_97 (by decide) ?_
              exact ih46 (i + 1) (by omega) (by omega) _ _ _ (fun j hj => (Nat.lt_or_eq_of_le (Nat.le_of_lt_succ hj)).elim (fun h8 => by rw [va_upN (by omega)]; exact hg j h8) (fun e8 => by rw [e8, va_upS, if_neg (by omega), if_neg (by omega)]; exact hfb9.symm)) oad29 hN hS ls (lv_sub hl [0, 1, 2, 3, 4, 5] rfl)
            · have nc38 : ¬ (clen (prc ch kv)) ≤ i := fun h9 => c38 ((nI_leI (a := (clen (prc ch kv))) (b := i) (by omega) (by omega)).mpr h9)
              refine lv_iload hx hb d_V_withEntry_83 (lv_at hl 0 rfl) ?_
              refine lv_goto (tgt := 92) hx hb d_V_withEntry_85 (by decide) ?_
              obtain ⟨e9, hn9, hwe9, hel9⟩ := nth_lt hwO (k := i) (by omega)
              obtain ⟨b9, hfb9, hrb9⟩ := rc_nth hcho hn9
              rw [Nat.zero_add] at hfb9
              obtain ⟨ka9, vv9, ob9, hnb9, -⟩ := re_at hwe9 hrb9
              refine z_aald (v := .ref b9) hx hb hK (oeo.grew hN.2) rfl i rfl (by omega) (by omega) (by rw [hfb9]; rfl) d_V_withEntry_92 ?_
              refine z_aas hx hb hK hS hAad29 oad29 rfl (z_anyE hK (ob9.grew hN.2)) i rfl (by omega) (by omega) d_V_withEntry_93 (fun H locs oad29 hz41 ho42 hS => ?_)
              have hN := hN.put hz41 ho42 hgbad29
              refine lv_iinc (v := (nI (i + 1))) (lv' := [(5, .int (nI (i + 1))), (4, .ref ad29), (3, .ref a), (2, .int (nI (clen (prc ch kv)))), (0, .ref a), (1, .ref ea9)]) hx hb d_V_withEntry_94 hl (k := 0) rfl (nI_1 i) (by decide) rfl (fun ls hl => ?_)
              refine lv_goto (tgt := 46) hx hb d_V_withEntry_97 (by decide) ?_
              exact ih46 (i + 1) (by omega) (by omega) _ _ _ (fun j hj => (Nat.lt_or_eq_of_le (Nat.le_of_lt_succ hj)).elim (fun h8 => by rw [va_upN (by omega)]; exact hg j h8) (fun e8 => by rw [e8, va_upS, if_neg (by omega), if_pos (by omega)]; exact hfb9.symm)) oad29 hN hS ls (lv_sub hl [0, 1, 2, 3, 4, 5] rfl)
          · have nc37 : i = (clen (prc ch kv)) := (nI_eq (a := i) (b := (clen (prc ch kv))) (by omega) (by omega)).mp c37
            refine lv_aload hx hb d_V_withEntry_60 (lv_at hl 1 rfl) ?_
            refine lv_iload hx hb d_V_withEntry_62 (lv_at hl 0 rfl) ?_
            refine lv_aload_n hx hb d_V_withEntry_64 rfl (lv_at hl 5 rfl) ?_
            refine z_aas hx hb hK hS hAad29 oad29 rfl (z_anyE hK (oe9.grew hN.2)) i rfl (by omega) (by omega) d_V_withEntry_65 (fun H locs oad29 hz43 ho44 hS => ?_)
            have hN := hN.put hz43 ho44 hgbad29
            refine lv_goto (tgt := 94) hx hb d_V_withEntry_66 (by decide) ?_
            refine lv_iinc (v := (nI (i + 1))) (lv' := [(5, .int (nI (i + 1))), (4, .ref ad29), (3, .ref a), (2, .int (nI (clen (prc ch kv)))), (0, .ref a), (1, .ref ea9)]) hx hb d_V_withEntry_94 hl (k := 0) rfl (nI_1 i) (by decide) rfl (fun ls hl => ?_)
            refine lv_goto (tgt := 46) hx hb d_V_withEntry_97 (by decide) ?_
            exact ih46 (i + 1) (by omega) (by omega) _ _ _ (fun j hj => (Nat.lt_or_eq_of_le (Nat.le_of_lt_succ hj)).elim (fun h8 => by rw [va_upN (by omega)]; exact hg j h8) (fun e8 => by rw [e8, va_upS, if_pos nc37])) oad29 hN hS ls (lv_sub hl [0, 1, 2, 3, 4, 5] rfl)
    exact loop30 (clen O9 + 1 + 1) 0 (by omega) (by omega) _ _ _ (fun j h9 => absurd h9 (by omega)) oad29 hN hS ls (lv_sub hl [0, 1, 2, 3, 4, 5] rfl)
