abbrev b_M_find : ByteArray := prog_12_method_7_code
abbrev y_M_find : MethodName := ⟨"ValueTreesModel", "find", "(III)I"⟩
abbrev w_M_find : List Cond := .code y_M_find b_M_find 5 (Option.some .int) :: gt
theorem hd_M_find : (y_M_find).cls ≠ "java/lang/invoke/MethodHandle" ∧ (y_M_find).cls ≠ "java/lang/invoke/VarHandle" ∧ (parseMethodDescriptor (y_M_find).desc).map (fun d => d.parameters.length) = some 3 := by decide +kernel
theorem d_M_find_0 : decode b_M_find 0 = .ok (.iconst 0, 1) := by decide +kernel
theorem d_M_find_1 : decode b_M_find 1 = .ok (.istore 4, 2) := by decide +kernel
theorem d_M_find_3 : decode b_M_find 3 = .ok (.iload 4, 2) := by decide +kernel
theorem d_M_find_5 : decode b_M_find 5 = .ok (.aload_n 0, 1) := by decide +kernel
theorem d_M_find_6 : decode b_M_find 6 = .ok (.getfield 38, 3) := by decide +kernel
theorem d_M_find_9 : decode b_M_find 9 = .ok (.if_icmp .ge 42, 3) := by decide +kernel
theorem d_M_find_12 : decode b_M_find 12 = .ok (.aload_n 0, 1) := by decide +kernel
theorem d_M_find_13 : decode b_M_find 13 = .ok (.getfield 7, 3) := by decide +kernel
theorem d_M_find_16 : decode b_M_find 16 = .ok (.iload 4, 2) := by decide +kernel
theorem d_M_find_18 : decode b_M_find 18 = .ok (.iaload, 1) := by decide +kernel
theorem d_M_find_19 : decode b_M_find 19 = .ok (.iload_n 1, 1) := by decide +kernel
theorem d_M_find_20 : decode b_M_find 20 = .ok (.if_icmp .ne 25, 3) := by decide +kernel
theorem d_M_find_23 : decode b_M_find 23 = .ok (.aload_n 0, 1) := by decide +kernel
theorem d_M_find_24 : decode b_M_find 24 = .ok (.getfield 13, 3) := by decide +kernel
theorem d_M_find_27 : decode b_M_find 27 = .ok (.iload 4, 2) := by decide +kernel
theorem d_M_find_29 : decode b_M_find 29 = .ok (.iaload, 1) := by decide +kernel
theorem d_M_find_30 : decode b_M_find 30 = .ok (.iload_n 2, 1) := by decide +kernel
theorem d_M_find_31 : decode b_M_find 31 = .ok (.if_icmp .ne 14, 3) := by decide +kernel
theorem d_M_find_34 : decode b_M_find 34 = .ok (.aload_n 0, 1) := by decide +kernel
theorem d_M_find_35 : decode b_M_find 35 = .ok (.getfield 16, 3) := by decide +kernel
theorem d_M_find_38 : decode b_M_find 38 = .ok (.iload 4, 2) := by decide +kernel
theorem d_M_find_40 : decode b_M_find 40 = .ok (.iaload, 1) := by decide +kernel
theorem d_M_find_41 : decode b_M_find 41 = .ok (.iload_n 3, 1) := by decide +kernel
theorem d_M_find_42 : decode b_M_find 42 = .ok (.if_icmp .eq 9, 3) := by decide +kernel
theorem d_M_find_45 : decode b_M_find 45 = .ok (.iinc 4 1, 3) := by decide +kernel
theorem d_M_find_48 : decode b_M_find 48 = .ok (.goto (-45), 3) := by decide +kernel
theorem d_M_find_51 : decode b_M_find 51 = .ok (.iload 4, 2) := by decide +kernel
theorem d_M_find_53 : decode b_M_find 53 = .ok (.aload_n 0, 1) := by decide +kernel
theorem d_M_find_54 : decode b_M_find 54 = .ok (.getfield 38, 3) := by decide +kernel
theorem d_M_find_57 : decode b_M_find 57 = .ok (.if_icmp .ge 8, 3) := by decide +kernel
theorem d_M_find_60 : decode b_M_find 60 = .ok (.iload 4, 2) := by decide +kernel
theorem d_M_find_62 : decode b_M_find 62 = .ok (.goto 4, 3) := by decide +kernel
theorem d_M_find_65 : decode b_M_find 65 = .ok (.iconst (-1), 1) := by decide +kernel
theorem d_M_find_66 : decode b_M_find 66 = .ok (.ireturn, 1) := by decide +kernel
set_option maxHeartbeats 4000000 in
set_option maxRecDepth 100000 in
theorem c_M_find (l : Launch) (D : va_G) (dT : Nat → ClassId) (H : Heap) (mm : Nat → Nat) (wd lf rt : Nat → Int32) (tc : Nat) (ty : Nat → Int32) (F : Nat → Nat) (sz : Nat → Int32) (Wk : Nat → Nat) (wz : Nat) (dg : Nat → Nat) (dc : Nat) (sh : Nat → Nat) (hM : mAt D dT mm wd lf rt tc ty F sz Wk wz dg dc sh H) (word left right : Int32) (htc : tc ≤ 2000) : Met l y_M_find w_M_find ({ frames := 0, cells := 0, slots := 0, locals := 0 }) (z_P D dT [.ref (mm 0), .int word, .int left, .int right] H) (z_R (fun v => (∃ t, t < tc ∧ (wd t = word ∧ lf t = left ∧ rt t = right) ∧ (∀ k, k < t → ¬ (wd k = word ∧ lf k = left ∧ rt k = right)) ∧ v = .int (nI t)) ∨ ((∀ k, k < tc → ¬ (wd k = word ∧ lf k = left ∧ rt k = right)) ∧ v = .int (-1)))) 0 0 (fun _ => False) := by
  refine Met.ofW (cc := b_M_find) (maxL := 5) (ret := (Option.some .int)) (by decide) rfl ?_
  intro p e s m args below meth c s₁ B hml hv
  obtain ⟨rfl, rfl, hK⟩ := hv
  have hx := B.exec
  have hb := B.bytes
  have hr := B.returns
  have hts := atoms_spec (ws := w_M_find) B.pre
  have ht : ∀ w9 ∈ gt, w9.before [.ref (mm 0), .int word, .int left, .int right].toArray s = true := fun w9 h => hts w9 (List.mem_cons_of_mem _ h)
  have hown : s.vm.findClass "ValueTreesModel" = some m.cls := findClass_of_methodNamed B.named
  have hlocks := B.notSynchronized
  have hl := lv_entry ([.ref (mm 0), .int word, .int left, .int right]) (n := 5) (Nat.le_of_ble_eq_true rfl)
  rw [lg_entry_eq]
  generalize (lg_sl ([.ref (mm 0), .int word, .int left, .int right]) ++ List.replicate (5 - (lg_sl ([.ref (mm 0), .int word, .int left, .int right])).length) Slot.unset).toArray = ls at hl ⊢
  have hl : lv_has ls 5 [(0, .ref (mm 0)), (1, .int word), (2, .int left), (3, .int right)] := hl
  refine lv_iconst (v := 0) hx hb d_M_find_0 (by decide) ?_
  refine lv_istore (lv' := [(4, .int 0), (0, .ref (mm 0)), (1, .int word), (2, .int left), (3, .int right)]) hx hb d_M_find_1 hl (by decide) rfl (fun ls hl => ?_)
  have loop1 : ∀ (n39 : Nat) (i : Nat), (i ≤ tc) → (∀ k, k < i → ¬ (wd k = word ∧ lf k = left ∧ rt k = right)) → tc - i < n39 → ∀ (ls : Array Slot), lv_has ls 5 [(4, .int (nI i)), (0, .ref (mm 0)), (1, .int word), (2, .int left), (3, .int right)] → W p l e (headSpec w_M_find ({ frames := 0, cells := 0, slots := 0, locals := 0 })).room s m [.ref (mm 0), .int word, .int left, .int right].toArray below meth c s.heap [] 0 0 (MQ below (z_R (fun v => (∃ t, t < tc ∧ (wd t = word ∧ lf t = left ∧ rt t = right) ∧ (∀ k, k < t → ¬ (wd k = word ∧ lf k = left ∧ rt k = right)) ∧ v = .int (nI t)) ∨ ((∀ k, k < tc → ¬ (wd k = word ∧ lf k = left ∧ rt k = right)) ∧ v = .int (-1)))) [.ref (mm 0), .int word, .int left, .int right].toArray s 0 0 (fun _ => False)) (F0 m 3 ls []) := by
    intro n39
    induction n39 with
    | zero =>
      intro i hi hno h39
      exact absurd h39 (Nat.not_lt_zero _)
    | succ n39 ih3 =>
      intro i hi hno h39  ls hl
      refine lv_iload hx hb d_M_find_3 (lv_at hl 0 rfl) ?_
      refine lv_aload_n hx hb d_M_find_5 rfl (lv_at hl 1 rfl) ?_
      refine va_get (D := D) (ci := 10) (v := .int (nI tc)) (C := "ValueTreesModel") (T := T_M) (N := 12) hx hb ht in_M hown hK.1 hM.1 0 rfl rfl 3 (by decide) (ht _ q542) (fun _ h9 => h9) rfl d_M_find_6 ?_
      refine lv_icmp_ge (tgt := 51) hx hb d_M_find_9 (by decide) (fun c2 => ?_) (fun c2 => ?_)
      · refine lv_iload hx hb d_M_find_51 (lv_at hl 0 rfl) ?_
        refine lv_aload_n hx hb d_M_find_53 rfl (lv_at hl 1 rfl) ?_
        refine va_get (D := D) (ci := 10) (v := .int (nI tc)) (C := "ValueTreesModel") (T := T_M) (N := 12) hx hb ht in_M hown hK.1 hM.1 0 rfl rfl 3 (by decide) (ht _ q542) (fun _ h9 => h9) rfl d_M_find_54 ?_
        refine lv_icmp_ge (tgt := 65) hx hb d_M_find_57 (by decide) (fun c3 => ?_) (fun c3 => absurd c2 c3)
        refine lv_iconst (v := (-1)) hx hb d_M_find_65 (by decide) ?_
        exact z_iretR hx hb hr hlocks d_M_find_66 (Or.inr ⟨fun k hk => hno k (by have := c3; rw [nI_leI (by omega) (by omega)] at this; omega), rfl⟩)
      · have hlt : i < tc := (by have := c2; rw [nI_leI (by omega) (by omega)] at this; omega)
        refine lv_aload_n hx hb d_M_find_12 rfl (lv_at hl 1 rfl) ?_
        refine va_get (D := D) (ci := 10) (v := .ref (mm 1)) (C := "ValueTreesModel") (T := T_M) (N := 12) hx hb ht in_M hown hK.1 hM.1 0 rfl rfl 0 (by decide) (ht _ q539) (fun _ h9 => h9) rfl d_M_find_13 ?_
        refine lv_iload hx hb d_M_find_16 (lv_at hl 0 rfl) ?_
        refine z_iald hx hb hK (hM.1 1 _ rfl) i rfl (by omega) (by decide) d_M_find_18 ?_
        refine lv_iload_n hx hb d_M_find_19 rfl (lv_at hl 2 rfl) ?_
        refine lv_icmp_ne (tgt := 45) hx hb d_M_find_20 (by decide) (fun c4 => ?_) (fun c4 => ?_)
        · refine lv_iinc (v := (nI (i + 1))) (lv' := [(4, .int (nI (i + 1))), (0, .ref (mm 0)), (1, .int word), (2, .int left), (3, .int right)]) hx hb d_M_find_45 hl (k := 0) rfl (nI_1 i) (by decide) rfl (fun ls hl => ?_)
          refine lv_goto (tgt := 3) hx hb d_M_find_48 (by decide) ?_
          exact ih3 (i + 1) (by omega) (lt_s hno (fun q => c4 q.1)) (by omega)  ls (lv_sub hl [0, 1, 2, 3, 4] rfl)
        · refine lv_aload_n hx hb d_M_find_23 rfl (lv_at hl 1 rfl) ?_
          refine va_get (D := D) (ci := 10) (v := .ref (mm 2)) (C := "ValueTreesModel") (T := T_M) (N := 12) hx hb ht in_M hown hK.1 hM.1 0 rfl rfl 1 (by decide) (ht _ q540) (fun _ h9 => h9) rfl d_M_find_24 ?_
          refine lv_iload hx hb d_M_find_27 (lv_at hl 0 rfl) ?_
          refine z_iald hx hb hK (hM.1 2 _ rfl) i rfl (by omega) (by decide) d_M_find_29 ?_
          refine lv_iload_n hx hb d_M_find_30 rfl (lv_at hl 3 rfl) ?_
          refine lv_icmp_ne (tgt := 45) hx hb d_M_find_31 (by decide) (fun c5 => ?_) (fun c5 => ?_)
          · refine lv_iinc (v := (nI (i + 1))) (lv' := [(4, .int (nI (i + 1))), (0, .ref (mm 0)), (1, .int word), (2, .int left), (3, .int right)]) hx hb d_M_find_45 hl (k := 0) rfl (nI_1 i) (by decide) rfl (fun ls hl => ?_)
            refine lv_goto (tgt := 3) hx hb d_M_find_48 (by decide) ?_
            exact ih3 (i + 1) (by omega) (lt_s hno (fun q => c5 q.2.1)) (by omega)  ls (lv_sub hl [0, 1, 2, 3, 4] rfl)
          · refine lv_aload_n hx hb d_M_find_34 rfl (lv_at hl 1 rfl) ?_
            refine va_get (D := D) (ci := 10) (v := .ref (mm 3)) (C := "ValueTreesModel") (T := T_M) (N := 12) hx hb ht in_M hown hK.1 hM.1 0 rfl rfl 2 (by decide) (ht _ q541) (fun _ h9 => h9) rfl d_M_find_35 ?_
            refine lv_iload hx hb d_M_find_38 (lv_at hl 0 rfl) ?_
            refine z_iald hx hb hK (hM.1 3 _ rfl) i rfl (by omega) (by decide) d_M_find_40 ?_
            refine lv_iload_n hx hb d_M_find_41 rfl (lv_at hl 4 rfl) ?_
            refine lv_icmp_eq (tgt := 51) hx hb d_M_find_42 (by decide) (fun c6 => ?_) (fun c6 => ?_)
            · refine lv_iload hx hb d_M_find_51 (lv_at hl 0 rfl) ?_
              refine lv_aload_n hx hb d_M_find_53 rfl (lv_at hl 1 rfl) ?_
              refine va_get (D := D) (ci := 10) (v := .int (nI tc)) (C := "ValueTreesModel") (T := T_M) (N := 12) hx hb ht in_M hown hK.1 hM.1 0 rfl rfl 3 (by decide) (ht _ q542) (fun _ h9 => h9) rfl d_M_find_54 ?_
              refine lv_icmp_ge (tgt := 65) hx hb d_M_find_57 (by decide) (fun c7 => absurd c7 c2) (fun c7 => ?_)
              refine lv_iload hx hb d_M_find_60 (lv_at hl 0 rfl) ?_
              refine lv_goto (tgt := 66) hx hb d_M_find_62 (by decide) ?_
              exact z_iretR hx hb hr hlocks d_M_find_66 (Or.inl ⟨i, by have := c7; rw [nI_leI (by omega) (by omega)] at this; omega, ⟨c4, c5, c6⟩, hno, rfl⟩)
            · refine lv_iinc (v := (nI (i + 1))) (lv' := [(4, .int (nI (i + 1))), (0, .ref (mm 0)), (1, .int word), (2, .int left), (3, .int right)]) hx hb d_M_find_45 hl (k := 0) rfl (nI_1 i) (by decide) rfl (fun ls hl => ?_)
              refine lv_goto (tgt := 3) hx hb d_M_find_48 (by decide) ?_
              exact ih3 (i + 1) (by omega) (lt_s hno (fun q => c6 q.2.2)) (by omega)  ls (lv_sub hl [0, 1, 2, 3, 4] rfl)
  exact loop1 (tc + 1) 0 (by omega) (fun k h => absurd h (Nat.not_lt_zero k)) (by omega)  ls (lv_sub hl [0, 1, 2, 3, 4] rfl)
abbrev b_M_parts : ByteArray := prog_12_method_3_code
abbrev y_M_parts : MethodName := ⟨"ValueTreesModel", "parts", "(I)I"⟩
abbrev w_M_parts : List Cond := .code y_M_parts b_M_parts 2 (Option.some .int) :: gt
theorem hd_M_parts : (y_M_parts).cls ≠ "java/lang/invoke/MethodHandle" ∧ (y_M_parts).cls ≠ "java/lang/invoke/VarHandle" ∧ (parseMethodDescriptor (y_M_parts).desc).map (fun d => d.parameters.length) = some 1 := by decide +kernel
theorem d_M_parts_0 : decode b_M_parts 0 = .ok (.iconst 1, 1) := by decide +kernel
theorem d_M_parts_1 : decode b_M_parts 1 = .ok (.aload_n 0, 1) := by decide +kernel
theorem d_M_parts_2 : decode b_M_parts 2 = .ok (.getfield 13, 3) := by decide +kernel
theorem d_M_parts_5 : decode b_M_parts 5 = .ok (.iload_n 1, 1) := by decide +kernel
theorem d_M_parts_6 : decode b_M_parts 6 = .ok (.iaload, 1) := by decide +kernel
theorem d_M_parts_7 : decode b_M_parts 7 = .ok (.ifCond .ge 7, 3) := by decide +kernel
theorem d_M_parts_10 : decode b_M_parts 10 = .ok (.iconst 0, 1) := by decide +kernel
theorem d_M_parts_11 : decode b_M_parts 11 = .ok (.goto 13, 3) := by decide +kernel
theorem d_M_parts_14 : decode b_M_parts 14 = .ok (.aload_n 0, 1) := by decide +kernel
theorem d_M_parts_15 : decode b_M_parts 15 = .ok (.aload_n 0, 1) := by decide +kernel
theorem d_M_parts_16 : decode b_M_parts 16 = .ok (.getfield 13, 3) := by decide +kernel
theorem d_M_parts_19 : decode b_M_parts 19 = .ok (.iload_n 1, 1) := by decide +kernel
theorem d_M_parts_20 : decode b_M_parts 20 = .ok (.iaload, 1) := by decide +kernel
theorem d_M_parts_21 : decode b_M_parts 21 = .ok (.invokevirtual 42, 3) := by decide +kernel
theorem d_M_parts_24 : decode b_M_parts 24 = .ok (.iadd, 1) := by decide +kernel
theorem d_M_parts_25 : decode b_M_parts 25 = .ok (.aload_n 0, 1) := by decide +kernel
theorem d_M_parts_26 : decode b_M_parts 26 = .ok (.getfield 16, 3) := by decide +kernel
theorem d_M_parts_29 : decode b_M_parts 29 = .ok (.iload_n 1, 1) := by decide +kernel
theorem d_M_parts_30 : decode b_M_parts 30 = .ok (.iaload, 1) := by decide +kernel
theorem d_M_parts_31 : decode b_M_parts 31 = .ok (.ifCond .ge 7, 3) := by decide +kernel
theorem d_M_parts_34 : decode b_M_parts 34 = .ok (.iconst 0, 1) := by decide +kernel
theorem d_M_parts_35 : decode b_M_parts 35 = .ok (.goto 13, 3) := by decide +kernel
theorem d_M_parts_38 : decode b_M_parts 38 = .ok (.aload_n 0, 1) := by decide +kernel
theorem d_M_parts_39 : decode b_M_parts 39 = .ok (.aload_n 0, 1) := by decide +kernel
theorem d_M_parts_40 : decode b_M_parts 40 = .ok (.getfield 16, 3) := by decide +kernel
theorem d_M_parts_43 : decode b_M_parts 43 = .ok (.iload_n 1, 1) := by decide +kernel
theorem d_M_parts_44 : decode b_M_parts 44 = .ok (.iaload, 1) := by decide +kernel
theorem d_M_parts_45 : decode b_M_parts 45 = .ok (.invokevirtual 42, 3) := by decide +kernel
theorem d_M_parts_48 : decode b_M_parts 48 = .ok (.iadd, 1) := by decide +kernel
theorem d_M_parts_49 : decode b_M_parts 49 = .ok (.ireturn, 1) := by decide +kernel
set_option maxHeartbeats 4000000 in
set_option maxRecDepth 100000 in
theorem c_M_parts (l : Launch) (D : va_G) (dT : Nat → ClassId) (H : Heap) (mm : Nat → Nat) (wd lf rt : Nat → Int32) (tc : Nat) (ty : Nat → Int32) (F : Nat → Nat) (sz : Nat → Int32) (Wk : Nat → Nat) (wz : Nat) (dg : Nat → Nat) (dc : Nat) (sh : Nat → Nat) (hM : mAt D dT mm wd lf rt tc ty F sz Wk wz dg dc sh H) (tb : Nat → TR) (hO : tOK tb tc) (hT : mT tb tc wd lf rt) : ∀ (d : Nat) (t : Nat), t < tc → tP (tb t) ≤ d → Met l y_M_parts w_M_parts ({ frames := d, cells := 0, slots := 0, locals := 21 * d }) (z_P D dT [.ref (mm 0), .int (nI t)] H) (z_R (fun v => v = .int (nI (tP (tb t))))) 0 0 (fun _ => False) := by
  intro d
  induction d with
  | zero =>
    intro t htl hd
    obtain ⟨r1, r2, r2b, r3, r4, r5, r6, r7, r8, r9, r10, r11, r12⟩ := hO.2.2 t htl
    omega
  | succ d ih =>
    intro t htl hd
    refine Met.ofW (cc := b_M_parts) (maxL := 2) (ret := (Option.some .int)) (by decide) rfl ?_
    intro p e s m args below meth c s₁ B hml hv
    obtain ⟨rfl, rfl, hK⟩ := hv
    have hx := B.exec
    have hb := B.bytes
    have hr := B.returns
    have hts := atoms_spec (ws := w_M_parts) B.pre
    have ht : ∀ w9 ∈ gt, w9.before [.ref (mm 0), .int (nI t)].toArray s = true := fun w9 h => hts w9 (List.mem_cons_of_mem _ h)
    have hown : s.vm.findClass "ValueTreesModel" = some m.cls := findClass_of_methodNamed B.named
    have hlocks := B.notSynchronized
    have hl := lv_entry ([.ref (mm 0), .int (nI t)]) (n := 2) (Nat.le_of_ble_eq_true rfl)
    rw [lg_entry_eq]
    generalize (lg_sl ([.ref (mm 0), .int (nI t)]) ++ List.replicate (2 - (lg_sl ([.ref (mm 0), .int (nI t)])).length) Slot.unset).toArray = ls at hl ⊢
    have hl : lv_has ls 2 [(0, .ref (mm 0)), (1, .int (nI t))] := hl
    obtain ⟨e1, e2, e3⟩ := hT t htl
    obtain ⟨r1, r2, r2b, r3, r4, r5, r6, r7, r8, r9, r10, r11, r12⟩ := hO.2.2 t htl
    have htc := hO.1
    cases hL : tL (tb t) with
    | none =>
      rw [hL] at e2
      have e2 : lf t = -1 := e2
      have wL : tW (tb t) < 10 := r3.mp hL
      cases hR : tR (tb t) with
      | none =>
        rw [hR] at e3
        have e3 : rt t = -1 := e3
        have wR : tW (tb t) < 14 := r4.mp hR
        refine lv_iconst (v := 1) hx hb d_M_parts_0 (by decide) ?_
        refine lv_aload_n hx hb d_M_parts_1 rfl (lv_at hl 0 rfl) ?_
        refine va_get (D := D) (ci := 10) (v := .ref (mm 2)) (C := "ValueTreesModel") (T := T_M) (N := 12) hx hb ht in_M hown hK.1 hM.1 0 rfl rfl 1 (by decide) (ht _ q540) (fun _ h9 => h9) rfl d_M_parts_2 ?_
        refine lv_iload_n hx hb d_M_parts_5 rfl (lv_at hl 1 rfl) ?_
        refine z_iald hx hb hK (hM.1 2 _ rfl) t rfl (by omega) (by decide) d_M_parts_6 ?_
        rw [e2]
        refine lv_if_ge (tgt := 14) hx hb d_M_parts_7 (by decide) (fun c1 => absurd c1 (by decide)) (fun _ => ?_)
        refine lv_iconst (v := 0) hx hb d_M_parts_10 (by decide) ?_
        refine lv_goto (tgt := 24) hx hb d_M_parts_11 (by decide) ?_
        refine lv_iadd hx hb d_M_parts_24 ?_
        refine lv_aload_n hx hb d_M_parts_25 rfl (lv_at hl 0 rfl) ?_
        refine va_get (D := D) (ci := 10) (v := .ref (mm 3)) (C := "ValueTreesModel") (T := T_M) (N := 12) hx hb ht in_M hown hK.1 hM.1 0 rfl rfl 2 (by decide) (ht _ q541) (fun _ h9 => h9) rfl d_M_parts_26 ?_
        refine lv_iload_n hx hb d_M_parts_29 rfl (lv_at hl 1 rfl) ?_
        refine z_iald hx hb hK (hM.1 3 _ rfl) t rfl (by omega) (by decide) d_M_parts_30 ?_
        rw [e3]
        refine lv_if_ge (tgt := 38) hx hb d_M_parts_31 (by decide) (fun c2 => absurd c2 (by decide)) (fun _ => ?_)
        refine lv_iconst (v := 0) hx hb d_M_parts_34 (by decide) ?_
        refine lv_goto (tgt := 48) hx hb d_M_parts_35 (by decide) ?_
        refine lv_iadd hx hb d_M_parts_48 ?_
        exact z_iretR hx hb hr hlocks d_M_parts_49 (by rw [r7, hL, hR]; simp only [oP]; first | rfl | (simp only [show (1 : Int32) = nI 1 from rfl, show (0 : Int32) = nI 0 from rfl, nI_add]))
      | some kr =>
        rw [hR] at e3
        have e3 : rt t = nI kr := e3
        have hkr : kr < t := r6 kr hR
        have wR : ¬ tW (tb t) < 14 := fun h9 => by have h8 := r4.mpr h9; rw [hR] at h8; cases h8
        exact absurd wL (by omega)
    | some kl =>
      rw [hL] at e2
      have e2 : lf t = nI kl := e2
      have hkl : kl < t := r5 kl hL
      have wL : ¬ tW (tb t) < 10 := fun h9 => by have h8 := r3.mpr h9; rw [hL] at h8; cases h8
      cases hR : tR (tb t) with
      | none =>
        rw [hR] at e3
        have e3 : rt t = -1 := e3
        have wR : tW (tb t) < 14 := r4.mp hR
        refine lv_iconst (v := 1) hx hb d_M_parts_0 (by decide) ?_
        refine lv_aload_n hx hb d_M_parts_1 rfl (lv_at hl 0 rfl) ?_
        refine va_get (D := D) (ci := 10) (v := .ref (mm 2)) (C := "ValueTreesModel") (T := T_M) (N := 12) hx hb ht in_M hown hK.1 hM.1 0 rfl rfl 1 (by decide) (ht _ q540) (fun _ h9 => h9) rfl d_M_parts_2 ?_
        refine lv_iload_n hx hb d_M_parts_5 rfl (lv_at hl 1 rfl) ?_
        refine z_iald hx hb hK (hM.1 2 _ rfl) t rfl (by omega) (by decide) d_M_parts_6 ?_
        rw [e2]
        refine lv_if_ge (tgt := 14) hx hb d_M_parts_7 (by decide) (fun c3 => ?_) (fun c3 => absurd (nI_pos' (by omega)) c3)
        refine lv_aload_n hx hb d_M_parts_14 rfl (lv_at hl 0 rfl) ?_
        refine lv_aload_n hx hb d_M_parts_15 rfl (lv_at hl 0 rfl) ?_
        refine va_get (D := D) (ci := 10) (v := .ref (mm 2)) (C := "ValueTreesModel") (T := T_M) (N := 12) hx hb ht in_M hown hK.1 hM.1 0 rfl rfl 1 (by decide) (ht _ q540) (fun _ h9 => h9) rfl d_M_parts_16 ?_
        refine lv_iload_n hx hb d_M_parts_19 rfl (lv_at hl 1 rfl) ?_
        refine z_iald hx hb hK (hM.1 2 _ rfl) t rfl (by omega) (by decide) d_M_parts_20 ?_
        rw [e2]
        refine z_callR (va_runV (C := "ValueTreesModel") (As := [.int (nI kl)]) (rest := [.int 1]) ⟨hx, hb, hml, hown, hts⟩ (ih kl (by omega) (by have := r7; rw [hL, hR] at this; simp only [oP] at this; omega)) ⟨callB_of 1 hts (gI gd_up gd_c q592) rfl rfl rfl (ht _ q10) (ht _ q589) hd_M_parts ⟨Nat.le_refl _, by show 8 + (2 + 11) + 21 * d ≤ 21 * (d + 1); omega⟩, ht _ q591, ht _ qs15⟩ (z_preV hK (va_recv hK.1 hM.1 (ci := 10) (q0 := 0) rfl rfl)) rfl rfl hl.1 rfl (lv_room (Nat.le_of_ble_eq_true rfl)) d_M_parts_21 ⟨Nat.zero_le _, Nat.zero_le _⟩) (fun v5 hv4 => ?_)
        subst hv4
        refine lv_iadd hx hb d_M_parts_24 ?_
        refine lv_aload_n hx hb d_M_parts_25 rfl (lv_at hl 0 rfl) ?_
        refine va_get (D := D) (ci := 10) (v := .ref (mm 3)) (C := "ValueTreesModel") (T := T_M) (N := 12) hx hb ht in_M hown hK.1 hM.1 0 rfl rfl 2 (by decide) (ht _ q541) (fun _ h9 => h9) rfl d_M_parts_26 ?_
        refine lv_iload_n hx hb d_M_parts_29 rfl (lv_at hl 1 rfl) ?_
        refine z_iald hx hb hK (hM.1 3 _ rfl) t rfl (by omega) (by decide) d_M_parts_30 ?_
        rw [e3]
        refine lv_if_ge (tgt := 38) hx hb d_M_parts_31 (by decide) (fun c6 => absurd c6 (by decide)) (fun _ => ?_)
        refine lv_iconst (v := 0) hx hb d_M_parts_34 (by decide) ?_
        refine lv_goto (tgt := 48) hx hb d_M_parts_35 (by decide) ?_
        refine lv_iadd hx hb d_M_parts_48 ?_
        exact z_iretR hx hb hr hlocks d_M_parts_49 (by rw [r7, hL, hR]; simp only [oP]; first | rfl | (simp only [show (1 : Int32) = nI 1 from rfl, show (0 : Int32) = nI 0 from rfl, nI_add]))
      | some kr =>
        rw [hR] at e3
        have e3 : rt t = nI kr := e3
        have hkr : kr < t := r6 kr hR
        have wR : ¬ tW (tb t) < 14 := fun h9 => by have h8 := r4.mpr h9; rw [hR] at h8; cases h8
        refine lv_iconst (v := 1) hx hb d_M_parts_0 (by decide) ?_
        refine lv_aload_n hx hb d_M_parts_1 rfl (lv_at hl 0 rfl) ?_
        refine va_get (D := D) (ci := 10) (v := .ref (mm 2)) (C := "ValueTreesModel") (T := T_M) (N := 12) hx hb ht in_M hown hK.1 hM.1 0 rfl rfl 1 (by decide) (ht _ q540) (fun _ h9 => h9) rfl d_M_parts_2 ?_
        refine lv_iload_n hx hb d_M_parts_5 rfl (lv_at hl 1 rfl) ?_
        refine z_iald hx hb hK (hM.1 2 _ rfl) t rfl (by omega) (by decide) d_M_parts_6 ?_
        rw [e2]
        refine lv_if_ge (tgt := 14) hx hb d_M_parts_7 (by decide) (fun c7 => ?_) (fun c7 => absurd (nI_pos' (by omega)) c7)
        refine lv_aload_n hx hb d_M_parts_14 rfl (lv_at hl 0 rfl) ?_
        refine lv_aload_n hx hb d_M_parts_15 rfl (lv_at hl 0 rfl) ?_
        refine va_get (D := D) (ci := 10) (v := .ref (mm 2)) (C := "ValueTreesModel") (T := T_M) (N := 12) hx hb ht in_M hown hK.1 hM.1 0 rfl rfl 1 (by decide) (ht _ q540) (fun _ h9 => h9) rfl d_M_parts_16 ?_
        refine lv_iload_n hx hb d_M_parts_19 rfl (lv_at hl 1 rfl) ?_
        refine z_iald hx hb hK (hM.1 2 _ rfl) t rfl (by omega) (by decide) d_M_parts_20 ?_
        rw [e2]
        refine z_callR (va_runV (C := "ValueTreesModel") (As := [.int (nI kl)]) (rest := [.int 1]) ⟨hx, hb, hml, hown, hts⟩ (ih kl (by omega) (by have := r7; rw [hL, hR] at this; simp only [oP] at this; omega)) ⟨callB_of 1 hts (gI gd_up gd_c q592) rfl rfl rfl (ht _ q10) (ht _ q589) hd_M_parts ⟨Nat.le_refl _, by show 8 + (2 + 11) + 21 * d ≤ 21 * (d + 1); omega⟩, ht _ q591, ht _ qs15⟩ (z_preV hK (va_recv hK.1 hM.1 (ci := 10) (q0 := 0) rfl rfl)) rfl rfl hl.1 rfl (lv_room (Nat.le_of_ble_eq_true rfl)) d_M_parts_21 ⟨Nat.zero_le _, Nat.zero_le _⟩) (fun v9 hv8 => ?_)
        subst hv8
        refine lv_iadd hx hb d_M_parts_24 ?_
        refine lv_aload_n hx hb d_M_parts_25 rfl (lv_at hl 0 rfl) ?_
        refine va_get (D := D) (ci := 10) (v := .ref (mm 3)) (C := "ValueTreesModel") (T := T_M) (N := 12) hx hb ht in_M hown hK.1 hM.1 0 rfl rfl 2 (by decide) (ht _ q541) (fun _ h9 => h9) rfl d_M_parts_26 ?_
        refine lv_iload_n hx hb d_M_parts_29 rfl (lv_at hl 1 rfl) ?_
        refine z_iald hx hb hK (hM.1 3 _ rfl) t rfl (by omega) (by decide) d_M_parts_30 ?_
        rw [e3]
        refine lv_if_ge (tgt := 38) hx hb d_M_parts_31 (by decide) (fun c10 => ?_) (fun c10 => absurd (nI_pos' (by omega)) c10)
        refine lv_aload_n hx hb d_M_parts_38 rfl (lv_at hl 0 rfl) ?_
        refine lv_aload_n hx hb d_M_parts_39 rfl (lv_at hl 0 rfl) ?_
        refine va_get (D := D) (ci := 10) (v := .ref (mm 3)) (C := "ValueTreesModel") (T := T_M) (N := 12) hx hb ht in_M hown hK.1 hM.1 0 rfl rfl 2 (by decide) (ht _ q541) (fun _ h9 => h9) rfl d_M_parts_40 ?_
        refine lv_iload_n hx hb d_M_parts_43 rfl (lv_at hl 1 rfl) ?_
        refine z_iald hx hb hK (hM.1 3 _ rfl) t rfl (by omega) (by decide) d_M_parts_44 ?_
        rw [e3]
        refine z_callR (va_runV (C := "ValueTreesModel") (As := [.int (nI kr)]) (rest := [.int (1 + (nI (tP (tb kl))))]) ⟨hx, hb, hml, hown, hts⟩ (ih kr (by omega) (by have := r7; rw [hL, hR] at this; simp only [oP] at this; omega)) ⟨callB_of 1 hts (gI gd_up gd_c q592) rfl rfl rfl (ht _ q10) (ht _ q589) hd_M_parts ⟨Nat.le_refl _, by show 8 + (2 + 11) + 21 * d ≤ 21 * (d + 1); omega⟩, ht _ q591, ht _ qs15⟩ (z_preV hK (va_recv hK.1 hM.1 (ci := 10) (q0 := 0) rfl rfl)) rfl rfl hl.1 rfl (lv_room (Nat.le_of_ble_eq_true rfl)) d_M_parts_45 ⟨Nat.zero_le _, Nat.zero_le _⟩) (fun v12 hv11 => ?_)
        subst hv11
        refine lv_iadd hx hb d_M_parts_48 ?_
        exact z_iretR hx hb hr hlocks d_M_parts_49 (by rw [r7, hL, hR]; simp only [oP]; first | rfl | (simp only [show (1 : Int32) = nI 1 from rfl, show (0 : Int32) = nI 0 from rfl, nI_add]))
abbrev b_M_isComparable : ByteArray := prog_12_method_4_code
abbrev y_M_isComparable : MethodName := ⟨"ValueTreesModel", "isComparable", "(I)Z"⟩
abbrev w_M_isComparable : List Cond := .code y_M_isComparable b_M_isComparable 4 (Option.some .boolean) :: gt
theorem hd_M_isComparable : (y_M_isComparable).cls ≠ "java/lang/invoke/MethodHandle" ∧ (y_M_isComparable).cls ≠ "java/lang/invoke/VarHandle" ∧ (parseMethodDescriptor (y_M_isComparable).desc).map (fun d => d.parameters.length) = some 1 := by decide +kernel
theorem d_M_isComparable_0 : decode b_M_isComparable 0 = .ok (.aload_n 0, 1) := by decide +kernel
theorem d_M_isComparable_1 : decode b_M_isComparable 1 = .ok (.getfield 7, 3) := by decide +kernel
theorem d_M_isComparable_4 : decode b_M_isComparable 4 = .ok (.iload_n 1, 1) := by decide +kernel
theorem d_M_isComparable_5 : decode b_M_isComparable 5 = .ok (.iaload, 1) := by decide +kernel
theorem d_M_isComparable_6 : decode b_M_isComparable 6 = .ok (.istore_n 2, 1) := by decide +kernel
theorem d_M_isComparable_7 : decode b_M_isComparable 7 = .ok (.iload_n 2, 1) := by decide +kernel
theorem d_M_isComparable_8 : decode b_M_isComparable 8 = .ok (.bipush 10, 2) := by decide +kernel
theorem d_M_isComparable_10 : decode b_M_isComparable 10 = .ok (.if_icmp .eq 15, 3) := by decide +kernel
theorem d_M_isComparable_13 : decode b_M_isComparable 13 = .ok (.iload_n 2, 1) := by decide +kernel
theorem d_M_isComparable_14 : decode b_M_isComparable 14 = .ok (.bipush 14, 2) := by decide +kernel
theorem d_M_isComparable_16 : decode b_M_isComparable 16 = .ok (.if_icmp .eq 9, 3) := by decide +kernel
theorem d_M_isComparable_19 : decode b_M_isComparable 19 = .ok (.iload_n 2, 1) := by decide +kernel
theorem d_M_isComparable_20 : decode b_M_isComparable 20 = .ok (.bipush 18, 2) := by decide +kernel
theorem d_M_isComparable_22 : decode b_M_isComparable 22 = .ok (.if_icmp .ne 7, 3) := by decide +kernel
theorem d_M_isComparable_25 : decode b_M_isComparable 25 = .ok (.iconst 1, 1) := by decide +kernel
theorem d_M_isComparable_26 : decode b_M_isComparable 26 = .ok (.goto 4, 3) := by decide +kernel
theorem d_M_isComparable_29 : decode b_M_isComparable 29 = .ok (.iconst 0, 1) := by decide +kernel
theorem d_M_isComparable_30 : decode b_M_isComparable 30 = .ok (.istore_n 3, 1) := by decide +kernel
theorem d_M_isComparable_31 : decode b_M_isComparable 31 = .ok (.iload_n 2, 1) := by decide +kernel
theorem d_M_isComparable_32 : decode b_M_isComparable 32 = .ok (.bipush 9, 2) := by decide +kernel
theorem d_M_isComparable_34 : decode b_M_isComparable 34 = .ok (.if_icmp .lt 42, 3) := by decide +kernel
theorem d_M_isComparable_37 : decode b_M_isComparable 37 = .ok (.iload_n 3, 1) := by decide +kernel
theorem d_M_isComparable_38 : decode b_M_isComparable 38 = .ok (.ifCond .eq 42, 3) := by decide +kernel
theorem d_M_isComparable_41 : decode b_M_isComparable 41 = .ok (.aload_n 0, 1) := by decide +kernel
theorem d_M_isComparable_42 : decode b_M_isComparable 42 = .ok (.aload_n 0, 1) := by decide +kernel
theorem d_M_isComparable_43 : decode b_M_isComparable 43 = .ok (.getfield 13, 3) := by decide +kernel
theorem d_M_isComparable_46 : decode b_M_isComparable 46 = .ok (.iload_n 1, 1) := by decide +kernel
theorem d_M_isComparable_47 : decode b_M_isComparable 47 = .ok (.iaload, 1) := by decide +kernel
theorem d_M_isComparable_48 : decode b_M_isComparable 48 = .ok (.invokevirtual 46, 3) := by decide +kernel
theorem d_M_isComparable_51 : decode b_M_isComparable 51 = .ok (.ifCond .eq 29, 3) := by decide +kernel
theorem d_M_isComparable_54 : decode b_M_isComparable 54 = .ok (.aload_n 0, 1) := by decide +kernel
theorem d_M_isComparable_55 : decode b_M_isComparable 55 = .ok (.getfield 16, 3) := by decide +kernel
theorem d_M_isComparable_58 : decode b_M_isComparable 58 = .ok (.iload_n 1, 1) := by decide +kernel
theorem d_M_isComparable_59 : decode b_M_isComparable 59 = .ok (.iaload, 1) := by decide +kernel
theorem d_M_isComparable_60 : decode b_M_isComparable 60 = .ok (.ifCond .lt 16, 3) := by decide +kernel
theorem d_M_isComparable_63 : decode b_M_isComparable 63 = .ok (.aload_n 0, 1) := by decide +kernel
theorem d_M_isComparable_64 : decode b_M_isComparable 64 = .ok (.aload_n 0, 1) := by decide +kernel
theorem d_M_isComparable_65 : decode b_M_isComparable 65 = .ok (.getfield 16, 3) := by decide +kernel
theorem d_M_isComparable_68 : decode b_M_isComparable 68 = .ok (.iload_n 1, 1) := by decide +kernel
theorem d_M_isComparable_69 : decode b_M_isComparable 69 = .ok (.iaload, 1) := by decide +kernel
theorem d_M_isComparable_70 : decode b_M_isComparable 70 = .ok (.invokevirtual 46, 3) := by decide +kernel
theorem d_M_isComparable_73 : decode b_M_isComparable 73 = .ok (.ifCond .eq 7, 3) := by decide +kernel
theorem d_M_isComparable_76 : decode b_M_isComparable 76 = .ok (.iconst 1, 1) := by decide +kernel
theorem d_M_isComparable_77 : decode b_M_isComparable 77 = .ok (.goto 4, 3) := by decide +kernel
theorem d_M_isComparable_80 : decode b_M_isComparable 80 = .ok (.iconst 0, 1) := by decide +kernel
theorem d_M_isComparable_81 : decode b_M_isComparable 81 = .ok (.ireturn, 1) := by decide +kernel
set_option maxHeartbeats 4000000 in
set_option maxRecDepth 100000 in
theorem c_M_isComparable (l : Launch) (D : va_G) (dT : Nat → ClassId) (H : Heap) (mm : Nat → Nat) (wd lf rt : Nat → Int32) (tc : Nat) (ty : Nat → Int32) (F : Nat → Nat) (sz : Nat → Int32) (Wk : Nat → Nat) (wz : Nat) (dg : Nat → Nat) (dc : Nat) (sh : Nat → Nat) (hM : mAt D dT mm wd lf rt tc ty F sz Wk wz dg dc sh H) (tb : Nat → TR) (hO : tOK tb tc) (hT : mT tb tc wd lf rt) : ∀ (d : Nat) (t : Nat), t < tc → tP (tb t) ≤ d → Met l y_M_isComparable w_M_isComparable ({ frames := d, cells := 0, slots := 0, locals := 23 * d }) (z_P D dT [.ref (mm 0), .int (nI t)] H) (z_R (fun v => v = .int (if tC (tb t) = true then 1 else 0))) 0 0 (fun _ => False) := by
  intro d
  induction d with
  | zero =>
    intro t htl hd
    obtain ⟨r1, r2, r2b, r3, r4, r5, r6, r7, r8, r9, r10, r11, r12⟩ := hO.2.2 t htl
    omega
  | succ d ih =>
    intro t htl hd
    refine Met.ofW (cc := b_M_isComparable) (maxL := 4) (ret := (Option.some .boolean)) (by decide) rfl ?_
    intro p e s m args below meth c s₁ B hml hv
    obtain ⟨rfl, rfl, hK⟩ := hv
    have hx := B.exec
    have hb := B.bytes
    have hr := B.returns
    have hts := atoms_spec (ws := w_M_isComparable) B.pre
    have ht : ∀ w9 ∈ gt, w9.before [.ref (mm 0), .int (nI t)].toArray s = true := fun w9 h => hts w9 (List.mem_cons_of_mem _ h)
    have hown : s.vm.findClass "ValueTreesModel" = some m.cls := findClass_of_methodNamed B.named
    have hlocks := B.notSynchronized
    have hl := lv_entry ([.ref (mm 0), .int (nI t)]) (n := 4) (Nat.le_of_ble_eq_true rfl)
    rw [lg_entry_eq]
    generalize (lg_sl ([.ref (mm 0), .int (nI t)]) ++ List.replicate (4 - (lg_sl ([.ref (mm 0), .int (nI t)])).length) Slot.unset).toArray = ls at hl ⊢
    have hl : lv_has ls 4 [(0, .ref (mm 0)), (1, .int (nI t))] := hl
    obtain ⟨e1, e2, e3⟩ := hT t htl
    obtain ⟨r1, r2, r2b, r3, r4, r5, r6, r7, r8, r9, r10, r11, r12⟩ := hO.2.2 t htl
    have htc := hO.1
    cases hL : tL (tb t) with
    | none =>
      rw [hL] at e2
      have e2 : lf t = -1 := e2
      have wL : tW (tb t) < 10 := r3.mp hL
      cases hR : tR (tb t) with
      | none =>
        rw [hR] at e3
        have e3 : rt t = -1 := e3
        have wR : tW (tb t) < 14 := r4.mp hR
        refine lv_aload_n hx hb d_M_isComparable_0 rfl (lv_at hl 0 rfl) ?_
        refine va_get (D := D) (ci := 10) (v := .ref (mm 1)) (C := "ValueTreesModel") (T := T_M) (N := 12) hx hb ht in_M hown hK.1 hM.1 0 rfl rfl 0 (by decide) (ht _ q539) (fun _ h9 => h9) rfl d_M_isComparable_1 ?_
        refine lv_iload_n hx hb d_M_isComparable_4 rfl (lv_at hl 1 rfl) ?_
        refine z_iald hx hb hK (hM.1 1 _ rfl) t rfl (by omega) (by decide) d_M_isComparable_5 ?_
        rw [e1]
        refine lv_istore_n (lv' := [(2, .int (nI (tW (tb t)))), (0, .ref (mm 0)), (1, .int (nI t))]) hx hb d_M_isComparable_6 rfl hl (by decide) rfl (fun ls hl => ?_)
        refine lv_iload_n hx hb d_M_isComparable_7 rfl (lv_at hl 0 rfl) ?_
        refine lv_bipush (v := 10) hx hb d_M_isComparable_8 (by decide) ?_
        refine lv_icmp_eq (tgt := 25) hx hb d_M_isComparable_10 (by decide) (fun c1 => ?_) (fun c1 => ?_)
        · have nc1 : (tW (tb t)) = 10 := (nI_eq (a := (tW (tb t))) (b := 10) (by omega) (by omega)).mp c1
          refine lv_iconst (v := 1) hx hb d_M_isComparable_25 (by decide) ?_
          refine lv_goto (tgt := 30) hx hb d_M_isComparable_26 (by decide) ?_
          refine lv_istore_n (lv' := [(3, .int 1), (2, .int (nI (tW (tb t)))), (0, .ref (mm 0)), (1, .int (nI t))]) hx hb d_M_isComparable_30 rfl hl (by decide) rfl (fun ls hl => ?_)
          refine lv_iload_n hx hb d_M_isComparable_31 rfl (lv_at hl 1 rfl) ?_
          refine lv_bipush (v := 9) hx hb d_M_isComparable_32 (by decide) ?_
          refine lv_icmp_lt (tgt := 76) hx hb d_M_isComparable_34 (by decide) (fun c2 => ?_) (fun c2 => ?_)
          · have nc2 : (tW (tb t)) < 9 := (nI_ltI (a := (tW (tb t))) (b := 9) (by omega) (by omega)).mp c2
            refine lv_iconst (v := 1) hx hb d_M_isComparable_76 (by decide) ?_
            refine lv_goto (tgt := 81) hx hb d_M_isComparable_77 (by decide) ?_
            exact z_zretR hx hb hr hlocks d_M_isComparable_81 rfl (by first | (exfalso; omega) | (rw [r9, hL, hR]; simp [oB, nc1, nc2]) | (rw [r9, hL, hR]; simp [oB, nc1, nc2]; omega))
          · have nc2 : ¬ (tW (tb t)) < 9 := fun h9 => c2 ((nI_ltI (a := (tW (tb t))) (b := 9) (by omega) (by omega)).mpr h9)
            refine lv_iload_n hx hb d_M_isComparable_37 rfl (lv_at hl 0 rfl) ?_
            refine lv_if_eq (tgt := 80) hx hb d_M_isComparable_38 (by decide) (fun c3 => absurd c3 (by decide)) (fun _ => ?_)
            exact absurd wL (by omega)
        · have nc1 : ¬ (tW (tb t)) = 10 := fun h9 => c1 ((nI_eq (a := (tW (tb t))) (b := 10) (by omega) (by omega)).mpr h9)
          refine lv_iload_n hx hb d_M_isComparable_13 rfl (lv_at hl 0 rfl) ?_
          refine lv_bipush (v := 14) hx hb d_M_isComparable_14 (by decide) ?_
          refine lv_icmp_eq (tgt := 25) hx hb d_M_isComparable_16 (by decide) (fun c4 => ?_) (fun c4 => ?_)
          · have nc4 : (tW (tb t)) = 14 := (nI_eq (a := (tW (tb t))) (b := 14) (by omega) (by omega)).mp c4
            refine lv_iconst (v := 1) hx hb d_M_isComparable_25 (by decide) ?_
            refine lv_goto (tgt := 30) hx hb d_M_isComparable_26 (by decide) ?_
            refine lv_istore_n (lv' := [(3, .int 1), (2, .int (nI (tW (tb t)))), (0, .ref (mm 0)), (1, .int (nI t))]) hx hb d_M_isComparable_30 rfl hl (by decide) rfl (fun ls hl => ?_)
            refine lv_iload_n hx hb d_M_isComparable_31 rfl (lv_at hl 1 rfl) ?_
            refine lv_bipush (v := 9) hx hb d_M_isComparable_32 (by decide) ?_
            refine lv_icmp_lt (tgt := 76) hx hb d_M_isComparable_34 (by decide) (fun c5 => ?_) (fun c5 => ?_)
            · have nc5 : (tW (tb t)) < 9 := (nI_ltI (a := (tW (tb t))) (b := 9) (by omega) (by omega)).mp c5
              refine lv_iconst (v := 1) hx hb d_M_isComparable_76 (by decide) ?_
              refine lv_goto (tgt := 81) hx hb d_M_isComparable_77 (by decide) ?_
              exact z_zretR hx hb hr hlocks d_M_isComparable_81 rfl (by first | (exfalso; omega) | (rw [r9, hL, hR]; simp [oB, nc1, nc4, nc5]) | (rw [r9, hL, hR]; simp [oB, nc1, nc4, nc5]; omega))
            · have nc5 : ¬ (tW (tb t)) < 9 := fun h9 => c5 ((nI_ltI (a := (tW (tb t))) (b := 9) (by omega) (by omega)).mpr h9)
              refine lv_iload_n hx hb d_M_isComparable_37 rfl (lv_at hl 0 rfl) ?_
              refine lv_if_eq (tgt := 80) hx hb d_M_isComparable_38 (by decide) (fun c6 => absurd c6 (by decide)) (fun _ => ?_)
              exact absurd wL (by omega)
          · have nc4 : ¬ (tW (tb t)) = 14 := fun h9 => c4 ((nI_eq (a := (tW (tb t))) (b := 14) (by omega) (by omega)).mpr h9)
            refine lv_iload_n hx hb d_M_isComparable_19 rfl (lv_at hl 0 rfl) ?_
            refine lv_bipush (v := 18) hx hb d_M_isComparable_20 (by decide) ?_
            refine lv_icmp_ne (tgt := 29) hx hb d_M_isComparable_22 (by decide) (fun c7 => ?_) (fun c7 => ?_)
            · have nc7 : ¬ (tW (tb t)) = 18 := fun h9 => c7 ((nI_eq (a := (tW (tb t))) (b := 18) (by omega) (by omega)).mpr h9)
              refine lv_iconst (v := 0) hx hb d_M_isComparable_29 (by decide) ?_
              refine lv_istore_n (lv' := [(3, .int 0), (2, .int (nI (tW (tb t)))), (0, .ref (mm 0)), (1, .int (nI t))]) hx hb d_M_isComparable_30 rfl hl (by decide) rfl (fun ls hl => ?_)
              refine lv_iload_n hx hb d_M_isComparable_31 rfl (lv_at hl 1 rfl) ?_
              refine lv_bipush (v := 9) hx hb d_M_isComparable_32 (by decide) ?_
              refine lv_icmp_lt (tgt := 76) hx hb d_M_isComparable_34 (by decide) (fun c8 => ?_) (fun c8 => ?_)
              · have nc8 : (tW (tb t)) < 9 := (nI_ltI (a := (tW (tb t))) (b := 9) (by omega) (by omega)).mp c8
                refine lv_iconst (v := 1) hx hb d_M_isComparable_76 (by decide) ?_
                refine lv_goto (tgt := 81) hx hb d_M_isComparable_77 (by decide) ?_
                exact z_zretR hx hb hr hlocks d_M_isComparable_81 rfl (by first | (exfalso; omega) | (rw [r9, hL, hR]; simp [oB, nc1, nc4, nc7, nc8]) | (rw [r9, hL, hR]; simp [oB, nc1, nc4, nc7, nc8]; omega))
              · have nc8 : ¬ (tW (tb t)) < 9 := fun h9 => c8 ((nI_ltI (a := (tW (tb t))) (b := 9) (by omega) (by omega)).mpr h9)
                refine lv_iload_n hx hb d_M_isComparable_37 rfl (lv_at hl 0 rfl) ?_
                refine lv_if_eq (tgt := 80) hx hb d_M_isComparable_38 (by decide) (fun _ => ?_) (fun c9 => absurd c9 (by decide))
                refine lv_iconst (v := 0) hx hb d_M_isComparable_80 (by decide) ?_
                exact z_zretR hx hb hr hlocks d_M_isComparable_81 rfl (by first | (exfalso; omega) | (rw [r9, hL, hR]; simp [oB, nc1, nc4, nc7, nc8]) | (rw [r9, hL, hR]; simp [oB, nc1, nc4, nc7, nc8]; omega))
            · have nc7 : (tW (tb t)) = 18 := (nI_eq (a := (tW (tb t))) (b := 18) (by omega) (by omega)).mp c7
              refine lv_iconst (v := 1) hx hb d_M_isComparable_25 (by decide) ?_
              refine lv_goto (tgt := 30) hx hb d_M_isComparable_26 (by decide) ?_
              refine lv_istore_n (lv' := [(3, .int 1), (2, .int (nI (tW (tb t)))), (0, .ref (mm 0)), (1, .int (nI t))]) hx hb d_M_isComparable_30 rfl hl (by decide) rfl (fun ls hl => ?_)
              refine lv_iload_n hx hb d_M_isComparable_31 rfl (lv_at hl 1 rfl) ?_
              refine lv_bipush (v := 9) hx hb d_M_isComparable_32 (by decide) ?_
              refine lv_icmp_lt (tgt := 76) hx hb d_M_isComparable_34 (by decide) (fun c10 => ?_) (fun c10 => ?_)
              · have nc10 : (tW (tb t)) < 9 := (nI_ltI (a := (tW (tb t))) (b := 9) (by omega) (by omega)).mp c10
                refine lv_iconst (v := 1) hx hb d_M_isComparable_76 (by decide) ?_
                refine lv_goto (tgt := 81) hx hb d_M_isComparable_77 (by decide) ?_
                exact z_zretR hx hb hr hlocks d_M_isComparable_81 rfl (by first | (exfalso; omega) | (rw [r9, hL, hR]; simp [oB, nc1, nc4, nc7, nc10]) | (rw [r9, hL, hR]; simp [oB, nc1, nc4, nc7, nc10]; omega))
              · have nc10 : ¬ (tW (tb t)) < 9 := fun h9 => c10 ((nI_ltI (a := (tW (tb t))) (b := 9) (by omega) (by omega)).mpr h9)
                refine lv_iload_n hx hb d_M_isComparable_37 rfl (lv_at hl 0 rfl) ?_
                refine lv_if_eq (tgt := 80) hx hb d_M_isComparable_38 (by decide) (fun c11 => absurd c11 (by decide)) (fun _ => ?_)
                exact absurd wL (by omega)
      | some kr =>
        rw [hR] at e3
        have e3 : rt t = nI kr := e3
        have hkr : kr < t := r6 kr hR
        have wR : ¬ tW (tb t) < 14 := fun h9 => by have h8 := r4.mpr h9; rw [hR] at h8; cases h8
        exact absurd wL (by omega)
    | some kl =>
      rw [hL] at e2
      have e2 : lf t = nI kl := e2
      have hkl : kl < t := r5 kl hL
      have wL : ¬ tW (tb t) < 10 := fun h9 => by have h8 := r3.mpr h9; rw [hL] at h8; cases h8
      cases hR : tR (tb t) with
      | none =>
        rw [hR] at e3
        have e3 : rt t = -1 := e3
        have wR : tW (tb t) < 14 := r4.mp hR
        refine lv_aload_n hx hb d_M_isComparable_0 rfl (lv_at hl 0 rfl) ?_
        refine va_get (D := D) (ci := 10) (v := .ref (mm 1)) (C := "ValueTreesModel") (T := T_M) (N := 12) hx hb ht in_M hown hK.1 hM.1 0 rfl rfl 0 (by decide) (ht _ q539) (fun _ h9 => h9) rfl d_M_isComparable_1 ?_
        refine lv_iload_n hx hb d_M_isComparable_4 rfl (lv_at hl 1 rfl) ?_
        refine z_iald hx hb hK (hM.1 1 _ rfl) t rfl (by omega) (by decide) d_M_isComparable_5 ?_
        rw [e1]
        refine lv_istore_n (lv' := [(2, .int (nI (tW (tb t)))), (0, .ref (mm 0)), (1, .int (nI t))]) hx hb d_M_isComparable_6 rfl hl (by decide) rfl (fun ls hl => ?_)
        refine lv_iload_n hx hb d_M_isComparable_7 rfl (lv_at hl 0 rfl) ?_
        refine lv_bipush (v := 10) hx hb d_M_isComparable_8 (by decide) ?_
        refine lv_icmp_eq (tgt := 25) hx hb d_M_isComparable_10 (by decide) (fun c12 => ?_) (fun c12 => ?_)
        · have nc12 : (tW (tb t)) = 10 := (nI_eq (a := (tW (tb t))) (b := 10) (by omega) (by omega)).mp c12
          refine lv_iconst (v := 1) hx hb d_M_isComparable_25 (by decide) ?_
          refine lv_goto (tgt := 30) hx hb d_M_isComparable_26 (by decide) ?_
          refine lv_istore_n (lv' := [(3, .int 1), (2, .int (nI (tW (tb t)))), (0, .ref (mm 0)), (1, .int (nI t))]) hx hb d_M_isComparable_30 rfl hl (by decide) rfl (fun ls hl => ?_)
          refine lv_iload_n hx hb d_M_isComparable_31 rfl (lv_at hl 1 rfl) ?_
          refine lv_bipush (v := 9) hx hb d_M_isComparable_32 (by decide) ?_
          refine lv_icmp_lt (tgt := 76) hx hb d_M_isComparable_34 (by decide) (fun c13 => ?_) (fun c13 => ?_)
          · have nc13 : (tW (tb t)) < 9 := (nI_ltI (a := (tW (tb t))) (b := 9) (by omega) (by omega)).mp c13
            refine lv_iconst (v := 1) hx hb d_M_isComparable_76 (by decide) ?_
            refine lv_goto (tgt := 81) hx hb d_M_isComparable_77 (by decide) ?_
            exact z_zretR hx hb hr hlocks d_M_isComparable_81 rfl (by first | (exfalso; omega) | (rw [r9, hL, hR]; simp [oB, nc12, nc13]) | (rw [r9, hL, hR]; simp [oB, nc12, nc13]; omega))
          · have nc13 : ¬ (tW (tb t)) < 9 := fun h9 => c13 ((nI_ltI (a := (tW (tb t))) (b := 9) (by omega) (by omega)).mpr h9)
            refine lv_iload_n hx hb d_M_isComparable_37 rfl (lv_at hl 0 rfl) ?_
            refine lv_if_eq (tgt := 80) hx hb d_M_isComparable_38 (by decide) (fun c14 => absurd c14 (by decide)) (fun _ => ?_)
            refine lv_aload_n hx hb d_M_isComparable_41 rfl (lv_at hl 2 rfl) ?_
            refine lv_aload_n hx hb d_M_isComparable_42 rfl (lv_at hl 2 rfl) ?_
            refine va_get (D := D) (ci := 10) (v := .ref (mm 2)) (C := "ValueTreesModel") (T := T_M) (N := 12) hx hb ht in_M hown hK.1 hM.1 0 rfl rfl 1 (by decide) (ht _ q540) (fun _ h9 => h9) rfl d_M_isComparable_43 ?_
            refine lv_iload_n hx hb d_M_isComparable_46 rfl (lv_at hl 3 rfl) ?_
            refine z_iald hx hb hK (hM.1 2 _ rfl) t rfl (by omega) (by decide) d_M_isComparable_47 ?_
            rw [e2]
            refine z_callR (va_runV (C := "ValueTreesModel") (As := [.int (nI kl)]) (rest := []) ⟨hx, hb, hml, hown, hts⟩ (ih kl (by omega) (by have := r7; rw [hL, hR] at this; simp only [oP] at this; omega)) ⟨callB_of 1 hts (gI gd_up gd_c q588) rfl rfl rfl (ht _ q10) (ht _ q585) hd_M_isComparable ⟨Nat.le_refl _, by show 8 + (4 + 11) + 23 * d ≤ 23 * (d + 1); omega⟩, ht _ q587, ht _ qs14⟩ (z_preV hK (va_recv hK.1 hM.1 (ci := 10) (q0 := 0) rfl rfl)) rfl rfl hl.1 rfl (lv_room (Nat.le_of_ble_eq_true rfl)) d_M_isComparable_48 ⟨Nat.zero_le _, Nat.zero_le _⟩) (fun v16 hv15 => ?_)
            have hv15 : v16 = .int (if tC (tb kl) = true then 1 else 0) := hv15
            cases hq17 : tC (tb kl) with
            | false =>
              rw [hq17, if_neg (by decide)] at hv15
              subst hv15
              refine lv_if_eq (tgt := 80) hx hb d_M_isComparable_51 (by decide) (fun _ => ?_) (fun c18 => absurd c18 (by decide))
              refine lv_iconst (v := 0) hx hb d_M_isComparable_80 (by decide) ?_
              exact z_zretR hx hb hr hlocks d_M_isComparable_81 rfl (by first | (exfalso; omega) | (rw [r9, hL, hR]; simp [oB, hq17, nc12, nc13]) | (rw [r9, hL, hR]; simp [oB, hq17, nc12, nc13]; omega))
            | true =>
              rw [hq17, if_pos rfl] at hv15
              subst hv15
              refine lv_if_eq (tgt := 80) hx hb d_M_isComparable_51 (by decide) (fun c19 => absurd c19 (by decide)) (fun _ => ?_)
              refine lv_aload_n hx hb d_M_isComparable_54 rfl (lv_at hl 2 rfl) ?_
              refine va_get (D := D) (ci := 10) (v := .ref (mm 3)) (C := "ValueTreesModel") (T := T_M) (N := 12) hx hb ht in_M hown hK.1 hM.1 0 rfl rfl 2 (by decide) (ht _ q541) (fun _ h9 => h9) rfl d_M_isComparable_55 ?_
              refine lv_iload_n hx hb d_M_isComparable_58 rfl (lv_at hl 3 rfl) ?_
              refine z_iald hx hb hK (hM.1 3 _ rfl) t rfl (by omega) (by decide) d_M_isComparable_59 ?_
              rw [e3]
              refine lv_if_lt (tgt := 76) hx hb d_M_isComparable_60 (by decide) (fun _ => ?_) (fun c20 => absurd c20 (by decide))
              refine lv_iconst (v := 1) hx hb d_M_isComparable_76 (by decide) ?_
              refine lv_goto (tgt := 81) hx hb d_M_isComparable_77 (by decide) ?_
              exact z_zretR hx hb hr hlocks d_M_isComparable_81 rfl (by first | (exfalso; omega) | (rw [r9, hL, hR]; simp [oB, hq17, nc12, nc13]) | (rw [r9, hL, hR]; simp [oB, hq17, nc12, nc13]; omega))
        · have nc12 : ¬ (tW (tb t)) = 10 := fun h9 => c12 ((nI_eq (a := (tW (tb t))) (b := 10) (by omega) (by omega)).mpr h9)
          refine lv_iload_n hx hb d_M_isComparable_13 rfl (lv_at hl 0 rfl) ?_
          refine lv_bipush (v := 14) hx hb d_M_isComparable_14 (by decide) ?_
          refine lv_icmp_eq (tgt := 25) hx hb d_M_isComparable_16 (by decide) (fun c21 => ?_) (fun c21 => ?_)
          · have nc21 : (tW (tb t)) = 14 := (nI_eq (a := (tW (tb t))) (b := 14) (by omega) (by omega)).mp c21
            refine lv_iconst (v := 1) hx hb d_M_isComparable_25 (by decide) ?_
            refine lv_goto (tgt := 30) hx hb d_M_isComparable_26 (by decide) ?_
            refine lv_istore_n (lv' := [(3, .int 1), (2, .int (nI (tW (tb t)))), (0, .ref (mm 0)), (1, .int (nI t))]) hx hb d_M_isComparable_30 rfl hl (by decide) rfl (fun ls hl => ?_)
            refine lv_iload_n hx hb d_M_isComparable_31 rfl (lv_at hl 1 rfl) ?_
            refine lv_bipush (v := 9) hx hb d_M_isComparable_32 (by decide) ?_
            refine lv_icmp_lt (tgt := 76) hx hb d_M_isComparable_34 (by decide) (fun c22 => ?_) (fun c22 => ?_)
            · have nc22 : (tW (tb t)) < 9 := (nI_ltI (a := (tW (tb t))) (b := 9) (by omega) (by omega)).mp c22
              refine lv_iconst (v := 1) hx hb d_M_isComparable_76 (by decide) ?_
              refine lv_goto (tgt := 81) hx hb d_M_isComparable_77 (by decide) ?_
              exact z_zretR hx hb hr hlocks d_M_isComparable_81 rfl (by first | (exfalso; omega) | (rw [r9, hL, hR]; simp [oB, nc12, nc21, nc22]) | (rw [r9, hL, hR]; simp [oB, nc12, nc21, nc22]; omega))
            · have nc22 : ¬ (tW (tb t)) < 9 := fun h9 => c22 ((nI_ltI (a := (tW (tb t))) (b := 9) (by omega) (by omega)).mpr h9)
              refine lv_iload_n hx hb d_M_isComparable_37 rfl (lv_at hl 0 rfl) ?_
              refine lv_if_eq (tgt := 80) hx hb d_M_isComparable_38 (by decide) (fun c23 => absurd c23 (by decide)) (fun _ => ?_)
              refine lv_aload_n hx hb d_M_isComparable_41 rfl (lv_at hl 2 rfl) ?_
              refine lv_aload_n hx hb d_M_isComparable_42 rfl (lv_at hl 2 rfl) ?_
              refine va_get (D := D) (ci := 10) (v := .ref (mm 2)) (C := "ValueTreesModel") (T := T_M) (N := 12) hx hb ht in_M hown hK.1 hM.1 0 rfl rfl 1 (by decide) (ht _ q540) (fun _ h9 => h9) rfl d_M_isComparable_43 ?_
              refine lv_iload_n hx hb d_M_isComparable_46 rfl (lv_at hl 3 rfl) ?_
              refine z_iald hx hb hK (hM.1 2 _ rfl) t rfl (by omega) (by decide) d_M_isComparable_47 ?_
              rw [e2]
              refine z_callR (va_runV (C := "ValueTreesModel") (As := [.int (nI kl)]) (rest := []) ⟨hx, hb, hml, hown, hts⟩ (ih kl (by omega) (by have := r7; rw [hL, hR] at this; simp only [oP] at this; omega)) ⟨callB_of 1 hts (gI gd_up gd_c q588) rfl rfl rfl (ht _ q10) (ht _ q585) hd_M_isComparable ⟨Nat.le_refl _, by show 8 + (4 + 11) + 23 * d ≤ 23 * (d + 1); omega⟩, ht _ q587, ht _ qs14⟩ (z_preV hK (va_recv hK.1 hM.1 (ci := 10) (q0 := 0) rfl rfl)) rfl rfl hl.1 rfl (lv_room (Nat.le_of_ble_eq_true rfl)) d_M_isComparable_48 ⟨Nat.zero_le _, Nat.zero_le _⟩) (fun v25 hv24 => ?_)
              have hv24 : v25 = .int (if tC (tb kl) = true then 1 else 0) := hv24
              cases hq26 : tC (tb kl) with
              | false =>
                rw [hq26, if_neg (by decide)] at hv24
                subst hv24
                refine lv_if_eq (tgt := 80) hx hb d_M_isComparable_51 (by decide) (fun _ => ?_) (fun c27 => absurd c27 (by decide))
                refine lv_iconst (v := 0) hx hb d_M_isComparable_80 (by decide) ?_
                exact z_zretR hx hb hr hlocks d_M_isComparable_81 rfl (by first | (exfalso; omega) | (rw [r9, hL, hR]; simp [oB, hq26, nc12, nc21, nc22]) | (rw [r9, hL, hR]; simp [oB, hq26, nc12, nc21, nc22]; omega))
              | true =>
                rw [hq26, if_pos rfl] at hv24
                subst hv24
                refine lv_if_eq (tgt := 80) hx hb d_M_isComparable_51 (by decide) (fun c28 => absurd c28 (by decide)) (fun _ => ?_)
                refine lv_aload_n hx hb d_M_isComparable_54 rfl (lv_at hl 2 rfl) ?_
                refine va_get (D := D) (ci := 10) (v := .ref (mm 3)) (C := "ValueTreesModel") (T := T_M) (N := 12) hx hb ht in_M hown hK.1 hM.1 0 rfl rfl 2 (by decide) (ht _ q541) (fun _ h9 => h9) rfl d_M_isComparable_55 ?_
                refine lv_iload_n hx hb d_M_isComparable_58 rfl (lv_at hl 3 rfl) ?_
                refine z_iald hx hb hK (hM.1 3 _ rfl) t rfl (by omega) (by decide) d_M_isComparable_59 ?_
                rw [e3]
                refine lv_if_lt (tgt := 76) hx hb d_M_isComparable_60 (by decide) (fun _ => ?_) (fun c29 => absurd c29 (by decide))
                refine lv_iconst (v := 1) hx hb d_M_isComparable_76 (by decide) ?_
                refine lv_goto (tgt := 81) hx hb d_M_isComparable_77 (by decide) ?_
                exact z_zretR hx hb hr hlocks d_M_isComparable_81 rfl (by first | (exfalso; omega) | (rw [r9, hL, hR]; simp [oB, hq26, nc12, nc21, nc22]) | (rw [r9, hL, hR]; simp [oB, hq26, nc12, nc21, nc22]; omega))
          · have nc21 : ¬ (tW (tb t)) = 14 := fun h9 => c21 ((nI_eq (a := (tW (tb t))) (b := 14) (by omega) (by omega)).mpr h9)
            refine lv_iload_n hx hb d_M_isComparable_19 rfl (lv_at hl 0 rfl) ?_
            refine lv_bipush (v := 18) hx hb d_M_isComparable_20 (by decide) ?_
            refine lv_icmp_ne (tgt := 29) hx hb d_M_isComparable_22 (by decide) (fun c30 => ?_) (fun c30 => ?_)
            · have nc30 : ¬ (tW (tb t)) = 18 := fun h9 => c30 ((nI_eq (a := (tW (tb t))) (b := 18) (by omega) (by omega)).mpr h9)
              refine lv_iconst (v := 0) hx hb d_M_isComparable_29 (by decide) ?_
              refine lv_istore_n (lv' := [(3, .int 0), (2, .int (nI (tW (tb t)))), (0, .ref (mm 0)), (1, .int (nI t))]) hx hb d_M_isComparable_30 rfl hl (by decide) rfl (fun ls hl => ?_)
              refine lv_iload_n hx hb d_M_isComparable_31 rfl (lv_at hl 1 rfl) ?_
              refine lv_bipush (v := 9) hx hb d_M_isComparable_32 (by decide) ?_
              refine lv_icmp_lt (tgt := 76) hx hb d_M_isComparable_34 (by decide) (fun c31 => ?_) (fun c31 => ?_)
              · have nc31 : (tW (tb t)) < 9 := (nI_ltI (a := (tW (tb t))) (b := 9) (by omega) (by omega)).mp c31
                refine lv_iconst (v := 1) hx hb d_M_isComparable_76 (by decide) ?_
                refine lv_goto (tgt := 81) hx hb d_M_isComparable_77 (by decide) ?_
                exact z_zretR hx hb hr hlocks d_M_isComparable_81 rfl (by first | (exfalso; omega) | (rw [r9, hL, hR]; simp [oB, nc12, nc21, nc30, nc31]) | (rw [r9, hL, hR]; simp [oB, nc12, nc21, nc30, nc31]; omega))
              · have nc31 : ¬ (tW (tb t)) < 9 := fun h9 => c31 ((nI_ltI (a := (tW (tb t))) (b := 9) (by omega) (by omega)).mpr h9)
                refine lv_iload_n hx hb d_M_isComparable_37 rfl (lv_at hl 0 rfl) ?_
                refine lv_if_eq (tgt := 80) hx hb d_M_isComparable_38 (by decide) (fun _ => ?_) (fun c32 => absurd c32 (by decide))
                refine lv_iconst (v := 0) hx hb d_M_isComparable_80 (by decide) ?_
                exact z_zretR hx hb hr hlocks d_M_isComparable_81 rfl (by first | (exfalso; omega) | (rw [r9, hL, hR]; simp [oB, nc12, nc21, nc30, nc31]) | (rw [r9, hL, hR]; simp [oB, nc12, nc21, nc30, nc31]; omega))
            · have nc30 : (tW (tb t)) = 18 := (nI_eq (a := (tW (tb t))) (b := 18) (by omega) (by omega)).mp c30
              refine lv_iconst (v := 1) hx hb d_M_isComparable_25 (by decide) ?_
              refine lv_goto (tgt := 30) hx hb d_M_isComparable_26 (by decide) ?_
              refine lv_istore_n (lv' := [(3, .int 1), (2, .int (nI (tW (tb t)))), (0, .ref (mm 0)), (1, .int (nI t))]) hx hb d_M_isComparable_30 rfl hl (by decide) rfl (fun ls hl => ?_)
              refine lv_iload_n hx hb d_M_isComparable_31 rfl (lv_at hl 1 rfl) ?_
              refine lv_bipush (v := 9) hx hb d_M_isComparable_32 (by decide) ?_
              refine lv_icmp_lt (tgt := 76) hx hb d_M_isComparable_34 (by decide) (fun c33 => ?_) (fun c33 => ?_)
              · have nc33 : (tW (tb t)) < 9 := (nI_ltI (a := (tW (tb t))) (b := 9) (by omega) (by omega)).mp c33
                refine lv_iconst (v := 1) hx hb d_M_isComparable_76 (by decide) ?_
                refine lv_goto (tgt := 81) hx hb d_M_isComparable_77 (by decide) ?_
                exact z_zretR hx hb hr hlocks d_M_isComparable_81 rfl (by first | (exfalso; omega) | (rw [r9, hL, hR]; simp [oB, nc12, nc21, nc30, nc33]) | (rw [r9, hL, hR]; simp [oB, nc12, nc21, nc30, nc33]; omega))
              · have nc33 : ¬ (tW (tb t)) < 9 := fun h9 => c33 ((nI_ltI (a := (tW (tb t))) (b := 9) (by omega) (by omega)).mpr h9)
                refine lv_iload_n hx hb d_M_isComparable_37 rfl (lv_at hl 0 rfl) ?_
                refine lv_if_eq (tgt := 80) hx hb d_M_isComparable_38 (by decide) (fun c34 => absurd c34 (by decide)) (fun _ => ?_)
                refine lv_aload_n hx hb d_M_isComparable_41 rfl (lv_at hl 2 rfl) ?_
                refine lv_aload_n hx hb d_M_isComparable_42 rfl (lv_at hl 2 rfl) ?_
                refine va_get (D := D) (ci := 10) (v := .ref (mm 2)) (C := "ValueTreesModel") (T := T_M) (N := 12) hx hb ht in_M hown hK.1 hM.1 0 rfl rfl 1 (by decide) (ht _ q540) (fun _ h9 => h9) rfl d_M_isComparable_43 ?_
                refine lv_iload_n hx hb d_M_isComparable_46 rfl (lv_at hl 3 rfl) ?_
                refine z_iald hx hb hK (hM.1 2 _ rfl) t rfl (by omega) (by decide) d_M_isComparable_47 ?_
                rw [e2]
                refine z_callR (va_runV (C := "ValueTreesModel") (As := [.int (nI kl)]) (rest := []) ⟨hx, hb, hml, hown, hts⟩ (ih kl (by omega) (by have := r7; rw [hL, hR] at this; simp only [oP] at this; omega)) ⟨callB_of 1 hts (gI gd_up gd_c q588) rfl rfl rfl (ht _ q10) (ht _ q585) hd_M_isComparable ⟨Nat.le_refl _, by show 8 + (4 + 11) + 23 * d ≤ 23 * (d + 1); omega⟩, ht _ q587, ht _ qs14⟩ (z_preV hK (va_recv hK.1 hM.1 (ci := 10) (q0 := 0) rfl rfl)) rfl rfl hl.1 rfl (lv_room (Nat.le_of_ble_eq_true rfl)) d_M_isComparable_48 ⟨Nat.zero_le _, Nat.zero_le _⟩) (fun v36 hv35 => ?_)
                have hv35 : v36 = .int (if tC (tb kl) = true then 1 else 0) := hv35
                cases hq37 : tC (tb kl) with
                | false =>
                  rw [hq37, if_neg (by decide)] at hv35
                  subst hv35
                  refine lv_if_eq (tgt := 80) hx hb d_M_isComparable_51 (by decide) (fun _ => ?_) (fun c38 => absurd c38 (by decide))
                  refine lv_iconst (v := 0) hx hb d_M_isComparable_80 (by decide) ?_
                  exact z_zretR hx hb hr hlocks d_M_isComparable_81 rfl (by first | (exfalso; omega) | (rw [r9, hL, hR]; simp [oB, hq37, nc12, nc21, nc30, nc33]) | (rw [r9, hL, hR]; simp [oB, hq37, nc12, nc21, nc30, nc33]; omega))
                | true =>
                  rw [hq37, if_pos rfl] at hv35
                  subst hv35
                  refine lv_if_eq (tgt := 80) hx hb d_M_isComparable_51 (by decide) (fun c39 => absurd c39 (by decide)) (fun _ => ?_)
                  refine lv_aload_n hx hb d_M_isComparable_54 rfl (lv_at hl 2 rfl) ?_
                  refine va_get (D := D) (ci := 10) (v := .ref (mm 3)) (C := "ValueTreesModel") (T := T_M) (N := 12) hx hb ht in_M hown hK.1 hM.1 0 rfl rfl 2 (by decide) (ht _ q541) (fun _ h9 => h9) rfl d_M_isComparable_55 ?_
                  refine lv_iload_n hx hb d_M_isComparable_58 rfl (lv_at hl 3 rfl) ?_
                  refine z_iald hx hb hK (hM.1 3 _ rfl) t rfl (by omega) (by decide) d_M_isComparable_59 ?_
                  rw [e3]
                  refine lv_if_lt (tgt := 76) hx hb d_M_isComparable_60 (by decide) (fun _ => ?_) (fun c40 => absurd c40 (by decide))
                  refine lv_iconst (v := 1) hx hb d_M_isComparable_76 (by decide) ?_
                  refine lv_goto (tgt := 81) hx hb d_M_isComparable_77 (by decide) ?_
                  exact z_zretR hx hb hr hlocks d_M_isComparable_81 rfl (by first | (exfalso; omega) | (rw [r9, hL, hR]; simp [oB, hq37, nc12, nc21, nc30, nc33]) | (rw [r9, hL, hR]; simp [oB, hq37, nc12, nc21, nc30, nc33]; omega))
      | some kr =>
        rw [hR] at e3
        have e3 : rt t = nI kr := e3
        have hkr : kr < t := r6 kr hR
        have wR : ¬ tW (tb t) < 14 := fun h9 => by have h8 := r4.mpr h9; rw [hR] at h8; cases h8
        refine lv_aload_n hx hb d_M_isComparable_0 rfl (lv_at hl 0 rfl) ?_
        refine va_get (D := D) (ci := 10) (v := .ref (mm 1)) (C := "ValueTreesModel") (T := T_M) (N := 12) hx hb ht in_M hown hK.1 hM.1 0 rfl rfl 0 (by decide) (ht _ q539) (fun _ h9 => h9) rfl d_M_isComparable_1 ?_
        refine lv_iload_n hx hb d_M_isComparable_4 rfl (lv_at hl 1 rfl) ?_
        refine z_iald hx hb hK (hM.1 1 _ rfl) t rfl (by omega) (by decide) d_M_isComparable_5 ?_
        rw [e1]
        refine lv_istore_n (lv' := [(2, .int (nI (tW (tb t)))), (0, .ref (mm 0)), (1, .int (nI t))]) hx hb d_M_isComparable_6 rfl hl (by decide) rfl (fun ls hl => ?_)
        refine lv_iload_n hx hb d_M_isComparable_7 rfl (lv_at hl 0 rfl) ?_
        refine lv_bipush (v := 10) hx hb d_M_isComparable_8 (by decide) ?_
        refine lv_icmp_eq (tgt := 25) hx hb d_M_isComparable_10 (by decide) (fun c41 => ?_) (fun c41 => ?_)
        · have nc41 : (tW (tb t)) = 10 := (nI_eq (a := (tW (tb t))) (b := 10) (by omega) (by omega)).mp c41
          refine lv_iconst (v := 1) hx hb d_M_isComparable_25 (by decide) ?_
          refine lv_goto (tgt := 30) hx hb d_M_isComparable_26 (by decide) ?_
          refine lv_istore_n (lv' := [(3, .int 1), (2, .int (nI (tW (tb t)))), (0, .ref (mm 0)), (1, .int (nI t))]) hx hb d_M_isComparable_30 rfl hl (by decide) rfl (fun ls hl => ?_)
          refine lv_iload_n hx hb d_M_isComparable_31 rfl (lv_at hl 1 rfl) ?_
          refine lv_bipush (v := 9) hx hb d_M_isComparable_32 (by decide) ?_
          refine lv_icmp_lt (tgt := 76) hx hb d_M_isComparable_34 (by decide) (fun c42 => ?_) (fun c42 => ?_)
          · have nc42 : (tW (tb t)) < 9 := (nI_ltI (a := (tW (tb t))) (b := 9) (by omega) (by omega)).mp c42
            refine lv_iconst (v := 1) hx hb d_M_isComparable_76 (by decide) ?_
            refine lv_goto (tgt := 81) hx hb d_M_isComparable_77 (by decide) ?_
            exact z_zretR hx hb hr hlocks d_M_isComparable_81 rfl (by first | (exfalso; omega) | (rw [r9, hL, hR]; simp [oB, nc41, nc42]) | (rw [r9, hL, hR]; simp [oB, nc41, nc42]; omega))
          · have nc42 : ¬ (tW (tb t)) < 9 := fun h9 => c42 ((nI_ltI (a := (tW (tb t))) (b := 9) (by omega) (by omega)).mpr h9)
            refine lv_iload_n hx hb d_M_isComparable_37 rfl (lv_at hl 0 rfl) ?_
            refine lv_if_eq (tgt := 80) hx hb d_M_isComparable_38 (by decide) (fun c43 => absurd c43 (by decide)) (fun _ => ?_)
            refine lv_aload_n hx hb d_M_isComparable_41 rfl (lv_at hl 2 rfl) ?_
            refine lv_aload_n hx hb d_M_isComparable_42 rfl (lv_at hl 2 rfl) ?_
            refine va_get (D := D) (ci := 10) (v := .ref (mm 2)) (C := "ValueTreesModel") (T := T_M) (N := 12) hx hb ht in_M hown hK.1 hM.1 0 rfl rfl 1 (by decide) (ht _ q540) (fun _ h9 => h9) rfl d_M_isComparable_43 ?_
            refine lv_iload_n hx hb d_M_isComparable_46 rfl (lv_at hl 3 rfl) ?_
            refine z_iald hx hb hK (hM.1 2 _ rfl) t rfl (by omega) (by decide) d_M_isComparable_47 ?_
            rw [e2]
            refine z_callR (va_runV (C := "ValueTreesModel") (As := [.int (nI kl)]) (rest := []) ⟨hx, hb, hml, hown, hts⟩ (ih kl (by omega) (by have := r7; rw [hL, hR] at this; simp only [oP] at this; omega)) ⟨callB_of 1 hts (gI gd_up gd_c q588) rfl rfl rfl (ht _ q10) (ht _ q585) hd_M_isComparable ⟨Nat.le_refl _, by show 8 + (4 + 11) + 23 * d ≤ 23 * (d + 1); omega⟩, ht _ q587, ht _ qs14⟩ (z_preV hK (va_recv hK.1 hM.1 (ci := 10) (q0 := 0) rfl rfl)) rfl rfl hl.1 rfl (lv_room (Nat.le_of_ble_eq_true rfl)) d_M_isComparable_48 ⟨Nat.zero_le _, Nat.zero_le _⟩) (fun v45 hv44 => ?_)
            have hv44 : v45 = .int (if tC (tb kl) = true then 1 else 0) := hv44
            cases hq46 : tC (tb kl) with
            | false =>
              rw [hq46, if_neg (by decide)] at hv44
              subst hv44
              refine lv_if_eq (tgt := 80) hx hb d_M_isComparable_51 (by decide) (fun _ => ?_) (fun c47 => absurd c47 (by decide))
              refine lv_iconst (v := 0) hx hb d_M_isComparable_80 (by decide) ?_
              exact z_zretR hx hb hr hlocks d_M_isComparable_81 rfl (by first | (exfalso; omega) | (rw [r9, hL, hR]; simp [oB, hq46, nc41, nc42]) | (rw [r9, hL, hR]; simp [oB, hq46, nc41, nc42]; omega))
            | true =>
              rw [hq46, if_pos rfl] at hv44
              subst hv44
              refine lv_if_eq (tgt := 80) hx hb d_M_isComparable_51 (by decide) (fun c48 => absurd c48 (by decide)) (fun _ => ?_)
              refine lv_aload_n hx hb d_M_isComparable_54 rfl (lv_at hl 2 rfl) ?_
              refine va_get (D := D) (ci := 10) (v := .ref (mm 3)) (C := "ValueTreesModel") (T := T_M) (N := 12) hx hb ht in_M hown hK.1 hM.1 0 rfl rfl 2 (by decide) (ht _ q541) (fun _ h9 => h9) rfl d_M_isComparable_55 ?_
              refine lv_iload_n hx hb d_M_isComparable_58 rfl (lv_at hl 3 rfl) ?_
              refine z_iald hx hb hK (hM.1 3 _ rfl) t rfl (by omega) (by decide) d_M_isComparable_59 ?_
              rw [e3]
              refine lv_if_lt (tgt := 76) hx hb d_M_isComparable_60 (by decide) (fun c49 => absurd c49 (nI_pos (by omega))) (fun c49 => ?_)
              refine lv_aload_n hx hb d_M_isComparable_63 rfl (lv_at hl 2 rfl) ?_
              refine lv_aload_n hx hb d_M_isComparable_64 rfl (lv_at hl 2 rfl) ?_
              refine va_get (D := D) (ci := 10) (v := .ref (mm 3)) (C := "ValueTreesModel") (T := T_M) (N := 12) hx hb ht in_M hown hK.1 hM.1 0 rfl rfl 2 (by decide) (ht _ q541) (fun _ h9 => h9) rfl d_M_isComparable_65 ?_
              refine lv_iload_n hx hb d_M_isComparable_68 rfl (lv_at hl 3 rfl) ?_
              refine z_iald hx hb hK (hM.1 3 _ rfl) t rfl (by omega) (by decide) d_M_isComparable_69 ?_
              rw [e3]
              refine z_callR (va_runV (C := "ValueTreesModel") (As := [.int (nI kr)]) (rest := []) ⟨hx, hb, hml, hown, hts⟩ (ih kr (by omega) (by have := r7; rw [hL, hR] at this; simp only [oP] at this; omega)) ⟨callB_of 1 hts (gI gd_up gd_c q588) rfl rfl rfl (ht _ q10) (ht _ q585) hd_M_isComparable ⟨Nat.le_refl _, by show 8 + (4 + 11) + 23 * d ≤ 23 * (d + 1); omega⟩, ht _ q587, ht _ qs14⟩ (z_preV hK (va_recv hK.1 hM.1 (ci := 10) (q0 := 0) rfl rfl)) rfl rfl hl.1 rfl (lv_room (Nat.le_of_ble_eq_true rfl)) d_M_isComparable_70 ⟨Nat.zero_le _, Nat.zero_le _⟩) (fun v51 hv50 => ?_)
              have hv50 : v51 = .int (if tC (tb kr) = true then 1 else 0) := hv50
              cases hq52 : tC (tb kr) with
              | false =>
                rw [hq52, if_neg (by decide)] at hv50
                subst hv50
                refine lv_if_eq (tgt := 80) hx hb d_M_isComparable_73 (by decide) (fun _ => ?_) (fun c53 => absurd c53 (by decide))
                refine lv_iconst (v := 0) hx hb d_M_isComparable_80 (by decide) ?_
                exact z_zretR hx hb hr hlocks d_M_isComparable_81 rfl (by first | (exfalso; omega) | (rw [r9, hL, hR]; simp [oB, hq46, hq52, nc41, nc42]) | (rw [r9, hL, hR]; simp [oB, hq46, hq52, nc41, nc42]; omega))
              | true =>
                rw [hq52, if_pos rfl] at hv50
                subst hv50
                refine lv_if_eq (tgt := 80) hx hb d_M_isComparable_73 (by decide) (fun c54 => absurd c54 (by decide)) (fun _ => ?_)
                refine lv_iconst (v := 1) hx hb d_M_isComparable_76 (by decide) ?_
                refine lv_goto (tgt := 81) hx hb d_M_isComparable_77 (by decide) ?_
                exact z_zretR hx hb hr hlocks d_M_isComparable_81 rfl (by first | (exfalso; omega) | (rw [r9, hL, hR]; simp [oB, hq46, hq52, nc41, nc42]) | (rw [r9, hL, hR]; simp [oB, hq46, hq52, nc41, nc42]; omega))
        · have nc41 : ¬ (tW (tb t)) = 10 := fun h9 => c41 ((nI_eq (a := (tW (tb t))) (b := 10) (by omega) (by omega)).mpr h9)
          refine lv_iload_n hx hb d_M_isComparable_13 rfl (lv_at hl 0 rfl) ?_
          refine lv_bipush (v := 14) hx hb d_M_isComparable_14 (by decide) ?_
          refine lv_icmp_eq (tgt := 25) hx hb d_M_isComparable_16 (by decide) (fun c55 => ?_) (fun c55 => ?_)
          · have nc55 : (tW (tb t)) = 14 := (nI_eq (a := (tW (tb t))) (b := 14) (by omega) (by omega)).mp c55
            refine lv_iconst (v := 1) hx hb d_M_isComparable_25 (by decide) ?_
            refine lv_goto (tgt := 30) hx hb d_M_isComparable_26 (by decide) ?_
            refine lv_istore_n (lv' := [(3, .int 1), (2, .int (nI (tW (tb t)))), (0, .ref (mm 0)), (1, .int (nI t))]) hx hb d_M_isComparable_30 rfl hl (by decide) rfl (fun ls hl => ?_)
            refine lv_iload_n hx hb d_M_isComparable_31 rfl (lv_at hl 1 rfl) ?_
            refine lv_bipush (v := 9) hx hb d_M_isComparable_32 (by decide) ?_
            refine lv_icmp_lt (tgt := 76) hx hb d_M_isComparable_34 (by decide) (fun c56 => ?_) (fun c56 => ?_)
            · have nc56 : (tW (tb t)) < 9 := (nI_ltI (a := (tW (tb t))) (b := 9) (by omega) (by omega)).mp c56
              refine lv_iconst (v := 1) hx hb d_M_isComparable_76 (by decide) ?_
              refine lv_goto (tgt := 81) hx hb d_M_isComparable_77 (by decide) ?_
              exact z_zretR hx hb hr hlocks d_M_isComparable_81 rfl (by first | (exfalso; omega) | (rw [r9, hL, hR]; simp [oB, nc41, nc55, nc56]) | (rw [r9, hL, hR]; simp [oB, nc41, nc55, nc56]; omega))
            · have nc56 : ¬ (tW (tb t)) < 9 := fun h9 => c56 ((nI_ltI (a := (tW (tb t))) (b := 9) (by omega) (by omega)).mpr h9)
              refine lv_iload_n hx hb d_M_isComparable_37 rfl (lv_at hl 0 rfl) ?_
              refine lv_if_eq (tgt := 80) hx hb d_M_isComparable_38 (by decide) (fun c57 => absurd c57 (by decide)) (fun _ => ?_)
              refine lv_aload_n hx hb d_M_isComparable_41 rfl (lv_at hl 2 rfl) ?_
              refine lv_aload_n hx hb d_M_isComparable_42 rfl (lv_at hl 2 rfl) ?_
              refine va_get (D := D) (ci := 10) (v := .ref (mm 2)) (C := "ValueTreesModel") (T := T_M) (N := 12) hx hb ht in_M hown hK.1 hM.1 0 rfl rfl 1 (by decide) (ht _ q540) (fun _ h9 => h9) rfl d_M_isComparable_43 ?_
              refine lv_iload_n hx hb d_M_isComparable_46 rfl (lv_at hl 3 rfl) ?_
              refine z_iald hx hb hK (hM.1 2 _ rfl) t rfl (by omega) (by decide) d_M_isComparable_47 ?_
              rw [e2]
              refine z_callR (va_runV (C := "ValueTreesModel") (As := [.int (nI kl)]) (rest := []) ⟨hx, hb, hml, hown, hts⟩ (ih kl (by omega) (by have := r7; rw [hL, hR] at this; simp only [oP] at this; omega)) ⟨callB_of 1 hts (gI gd_up gd_c q588) rfl rfl rfl (ht _ q10) (ht _ q585) hd_M_isComparable ⟨Nat.le_refl _, by show 8 + (4 + 11) + 23 * d ≤ 23 * (d + 1); omega⟩, ht _ q587, ht _ qs14⟩ (z_preV hK (va_recv hK.1 hM.1 (ci := 10) (q0 := 0) rfl rfl)) rfl rfl hl.1 rfl (lv_room (Nat.le_of_ble_eq_true rfl)) d_M_isComparable_48 ⟨Nat.zero_le _, Nat.zero_le _⟩) (fun v59 hv58 => ?_)
              have hv58 : v59 = .int (if tC (tb kl) = true then 1 else 0) := hv58
              cases hq60 : tC (tb kl) with
              | false =>
                rw [hq60, if_neg (by decide)] at hv58
                subst hv58
                refine lv_if_eq (tgt := 80) hx hb d_M_isComparable_51 (by decide) (fun _ => ?_) (fun c61 => absurd c61 (by decide))
                refine lv_iconst (v := 0) hx hb d_M_isComparable_80 (by decide) ?_
                exact z_zretR hx hb hr hlocks d_M_isComparable_81 rfl (by first | (exfalso; omega) | (rw [r9, hL, hR]; simp [oB, hq60, nc41, nc55, nc56]) | (rw [r9, hL, hR]; simp [oB, hq60, nc41, nc55, nc56]; omega))
              | true =>
                rw [hq60, if_pos rfl] at hv58
                subst hv58
                refine lv_if_eq (tgt := 80) hx hb d_M_isComparable_51 (by decide) (fun c62 => absurd c62 (by decide)) (fun _ => ?_)
                refine lv_aload_n hx hb d_M_isComparable_54 rfl (lv_at hl 2 rfl) ?_
                refine va_get (D := D) (ci := 10) (v := .ref (mm 3)) (C := "ValueTreesModel") (T := T_M) (N := 12) hx hb ht in_M hown hK.1 hM.1 0 rfl rfl 2 (by decide) (ht _ q541) (fun _ h9 => h9) rfl d_M_isComparable_55 ?_
                refine lv_iload_n hx hb d_M_isComparable_58 rfl (lv_at hl 3 rfl) ?_
                refine z_iald hx hb hK (hM.1 3 _ rfl) t rfl (by omega) (by decide) d_M_isComparable_59 ?_
                rw [e3]
                refine lv_if_lt (tgt := 76) hx hb d_M_isComparable_60 (by decide) (fun c63 => absurd c63 (nI_pos (by omega))) (fun c63 => ?_)
                refine lv_aload_n hx hb d_M_isComparable_63 rfl (lv_at hl 2 rfl) ?_
                refine lv_aload_n hx hb d_M_isComparable_64 rfl (lv_at hl 2 rfl) ?_
                refine va_get (D := D) (ci := 10) (v := .ref (mm 3)) (C := "ValueTreesModel") (T := T_M) (N := 12) hx hb ht in_M hown hK.1 hM.1 0 rfl rfl 2 (by decide) (ht _ q541) (fun _ h9 => h9) rfl d_M_isComparable_65 ?_
                refine lv_iload_n hx hb d_M_isComparable_68 rfl (lv_at hl 3 rfl) ?_
                refine z_iald hx hb hK (hM.1 3 _ rfl) t rfl (by omega) (by decide) d_M_isComparable_69 ?_
                rw [e3]
                refine z_callR (va_runV (C := "ValueTreesModel") (As := [.int (nI kr)]) (rest := []) ⟨hx, hb, hml, hown, hts⟩ (ih kr (by omega) (by have := r7; rw [hL, hR] at this; simp only [oP] at this; omega)) ⟨callB_of 1 hts (gI gd_up gd_c q588) rfl rfl rfl (ht _ q10) (ht _ q585) hd_M_isComparable ⟨Nat.le_refl _, by show 8 + (4 + 11) + 23 * d ≤ 23 * (d + 1); omega⟩, ht _ q587, ht _ qs14⟩ (z_preV hK (va_recv hK.1 hM.1 (ci := 10) (q0 := 0) rfl rfl)) rfl rfl hl.1 rfl (lv_room (Nat.le_of_ble_eq_true rfl)) d_M_isComparable_70 ⟨Nat.zero_le _, Nat.zero_le _⟩) (fun v65 hv64 => ?_)
                have hv64 : v65 = .int (if tC (tb kr) = true then 1 else 0) := hv64
                cases hq66 : tC (tb kr) with
                | false =>
                  rw [hq66, if_neg (by decide)] at hv64
                  subst hv64
                  refine lv_if_eq (tgt := 80) hx hb d_M_isComparable_73 (by decide) (fun _ => ?_) (fun c67 => absurd c67 (by decide))
                  refine lv_iconst (v := 0) hx hb d_M_isComparable_80 (by decide) ?_
                  exact z_zretR hx hb hr hlocks d_M_isComparable_81 rfl (by first | (exfalso; omega) | (rw [r9, hL, hR]; simp [oB, hq60, hq66, nc41, nc55, nc56]) | (rw [r9, hL, hR]; simp [oB, hq60, hq66, nc41, nc55, nc56]; omega))
                | true =>
                  rw [hq66, if_pos rfl] at hv64
                  subst hv64
                  refine lv_if_eq (tgt := 80) hx hb d_M_isComparable_73 (by decide) (fun c68 => absurd c68 (by decide)) (fun _ => ?_)
                  refine lv_iconst (v := 1) hx hb d_M_isComparable_76 (by decide) ?_
                  refine lv_goto (tgt := 81) hx hb d_M_isComparable_77 (by decide) ?_
                  exact z_zretR hx hb hr hlocks d_M_isComparable_81 rfl (by first | (exfalso; omega) | (rw [r9, hL, hR]; simp [oB, hq60, hq66, nc41, nc55, nc56]) | (rw [r9, hL, hR]; simp [oB, hq60, hq66, nc41, nc55, nc56]; omega))
          · have nc55 : ¬ (tW (tb t)) = 14 := fun h9 => c55 ((nI_eq (a := (tW (tb t))) (b := 14) (by omega) (by omega)).mpr h9)
            refine lv_iload_n hx hb d_M_isComparable_19 rfl (lv_at hl 0 rfl) ?_
            refine lv_bipush (v := 18) hx hb d_M_isComparable_20 (by decide) ?_
            refine lv_icmp_ne (tgt := 29) hx hb d_M_isComparable_22 (by decide) (fun c69 => ?_) (fun c69 => ?_)
            · have nc69 : ¬ (tW (tb t)) = 18 := fun h9 => c69 ((nI_eq (a := (tW (tb t))) (b := 18) (by omega) (by omega)).mpr h9)
              refine lv_iconst (v := 0) hx hb d_M_isComparable_29 (by decide) ?_
              refine lv_istore_n (lv' := [(3, .int 0), (2, .int (nI (tW (tb t)))), (0, .ref (mm 0)), (1, .int (nI t))]) hx hb d_M_isComparable_30 rfl hl (by decide) rfl (fun ls hl => ?_)
              refine lv_iload_n hx hb d_M_isComparable_31 rfl (lv_at hl 1 rfl) ?_
              refine lv_bipush (v := 9) hx hb d_M_isComparable_32 (by decide) ?_
              refine lv_icmp_lt (tgt := 76) hx hb d_M_isComparable_34 (by decide) (fun c70 => ?_) (fun c70 => ?_)
              · have nc70 : (tW (tb t)) < 9 := (nI_ltI (a := (tW (tb t))) (b := 9) (by omega) (by omega)).mp c70
                refine lv_iconst (v := 1) hx hb d_M_isComparable_76 (by decide) ?_
                refine lv_goto (tgt := 81) hx hb d_M_isComparable_77 (by decide) ?_
                exact z_zretR hx hb hr hlocks d_M_isComparable_81 rfl (by first | (exfalso; omega) | (rw [r9, hL, hR]; simp [oB, nc41, nc55, nc69, nc70]) | (rw [r9, hL, hR]; simp [oB, nc41, nc55, nc69, nc70]; omega))
              · have nc70 : ¬ (tW (tb t)) < 9 := fun h9 => c70 ((nI_ltI (a := (tW (tb t))) (b := 9) (by omega) (by omega)).mpr h9)
                refine lv_iload_n hx hb d_M_isComparable_37 rfl (lv_at hl 0 rfl) ?_
                refine lv_if_eq (tgt := 80) hx hb d_M_isComparable_38 (by decide) (fun _ => ?_) (fun c71 => absurd c71 (by decide))
                refine lv_iconst (v := 0) hx hb d_M_isComparable_80 (by decide) ?_
                exact z_zretR hx hb hr hlocks d_M_isComparable_81 rfl (by first | (exfalso; omega) | (rw [r9, hL, hR]; simp [oB, nc41, nc55, nc69, nc70]) | (rw [r9, hL, hR]; simp [oB, nc41, nc55, nc69, nc70]; omega))
            · have nc69 : (tW (tb t)) = 18 := (nI_eq (a := (tW (tb t))) (b := 18) (by omega) (by omega)).mp c69
              refine lv_iconst (v := 1) hx hb d_M_isComparable_25 (by decide) ?_
              refine lv_goto (tgt := 30) hx hb d_M_isComparable_26 (by decide) ?_
              refine lv_istore_n (lv' := [(3, .int 1), (2, .int (nI (tW (tb t)))), (0, .ref (mm 0)), (1, .int (nI t))]) hx hb d_M_isComparable_30 rfl hl (by decide) rfl (fun ls hl => ?_)
              refine lv_iload_n hx hb d_M_isComparable_31 rfl (lv_at hl 1 rfl) ?_
              refine lv_bipush (v := 9) hx hb d_M_isComparable_32 (by decide) ?_
              refine lv_icmp_lt (tgt := 76) hx hb d_M_isComparable_34 (by decide) (fun c72 => ?_) (fun c72 => ?_)
              · have nc72 : (tW (tb t)) < 9 := (nI_ltI (a := (tW (tb t))) (b := 9) (by omega) (by omega)).mp c72
                refine lv_iconst (v := 1) hx hb d_M_isComparable_76 (by decide) ?_
                refine lv_goto (tgt := 81) hx hb d_M_isComparable_77 (by decide) ?_
                exact z_zretR hx hb hr hlocks d_M_isComparable_81 rfl (by first | (exfalso; omega) | (rw [r9, hL, hR]; simp [oB, nc41, nc55, nc69, nc72]) | (rw [r9, hL, hR]; simp [oB, nc41, nc55, nc69, nc72]; omega))
              · have nc72 : ¬ (tW (tb t)) < 9 := fun h9 => c72 ((nI_ltI (a := (tW (tb t))) (b := 9) (by omega) (by omega)).mpr h9)
                refine lv_iload_n hx hb d_M_isComparable_37 rfl (lv_at hl 0 rfl) ?_
                refine lv_if_eq (tgt := 80) hx hb d_M_isComparable_38 (by decide) (fun c73 => absurd c73 (by decide)) (fun _ => ?_)
                refine lv_aload_n hx hb d_M_isComparable_41 rfl (lv_at hl 2 rfl) ?_
                refine lv_aload_n hx hb d_M_isComparable_42 rfl (lv_at hl 2 rfl) ?_
                refine va_get (D := D) (ci := 10) (v := .ref (mm 2)) (C := "ValueTreesModel") (T := T_M) (N := 12) hx hb ht in_M hown hK.1 hM.1 0 rfl rfl 1 (by decide) (ht _ q540) (fun _ h9 => h9) rfl d_M_isComparable_43 ?_
                refine lv_iload_n hx hb d_M_isComparable_46 rfl (lv_at hl 3 rfl) ?_
                refine z_iald hx hb hK (hM.1 2 _ rfl) t rfl (by omega) (by decide) d_M_isComparable_47 ?_
                rw [e2]
                refine z_callR (va_runV (C := "ValueTreesModel") (As := [.int (nI kl)]) (rest := []) ⟨hx, hb, hml, hown, hts⟩ (ih kl (by omega) (by have := r7; rw [hL, hR] at this; simp only [oP] at this; omega)) ⟨callB_of 1 hts (gI gd_up gd_c q588) rfl rfl rfl (ht _ q10) (ht _ q585) hd_M_isComparable ⟨Nat.le_refl _, by show 8 + (4 + 11) + 23 * d ≤ 23 * (d + 1); omega⟩, ht _ q587, ht _ qs14⟩ (z_preV hK (va_recv hK.1 hM.1 (ci := 10) (q0 := 0) rfl rfl)) rfl rfl hl.1 rfl (lv_room (Nat.le_of_ble_eq_true rfl)) d_M_isComparable_48 ⟨Nat.zero_le _, Nat.zero_le _⟩) (fun v75 hv74 => ?_)
                have hv74 : v75 = .int (if tC (tb kl) = true then 1 else 0) := hv74
                cases hq76 : tC (tb kl) with
                | false =>
                  rw [hq76, if_neg (by decide)] at hv74
                  subst hv74
                  refine lv_if_eq (tgt := 80) hx hb d_M_isComparable_51 (by decide) (fun _ => ?_) (fun c77 => absurd c77 (by decide))
                  refine lv_iconst (v := 0) hx hb d_M_isComparable_80 (by decide) ?_
                  exact z_zretR hx hb hr hlocks d_M_isComparable_81 rfl (by first | (exfalso; omega) | (rw [r9, hL, hR]; simp [oB, hq76, nc41, nc55, nc69, nc72]) | (rw [r9, hL, hR]; simp [oB, hq76, nc41, nc55, nc69, nc72]; omega))
                | true =>
                  rw [hq76, if_pos rfl] at hv74
                  subst hv74
                  refine lv_if_eq (tgt := 80) hx hb d_M_isComparable_51 (by decide) (fun c78 => absurd c78 (by decide)) (fun _ => ?_)
                  refine lv_aload_n hx hb d_M_isComparable_54 rfl (lv_at hl 2 rfl) ?_
                  refine va_get (D := D) (ci := 10) (v := .ref (mm 3)) (C := "ValueTreesModel") (T := T_M) (N := 12) hx hb ht in_M hown hK.1 hM.1 0 rfl rfl 2 (by decide) (ht _ q541) (fun _ h9 => h9) rfl d_M_isComparable_55 ?_
                  refine lv_iload_n hx hb d_M_isComparable_58 rfl (lv_at hl 3 rfl) ?_
                  refine z_iald hx hb hK (hM.1 3 _ rfl) t rfl (by omega) (by decide) d_M_isComparable_59 ?_
                  rw [e3]
                  refine lv_if_lt (tgt := 76) hx hb d_M_isComparable_60 (by decide) (fun c79 => absurd c79 (nI_pos (by omega))) (fun c79 => ?_)
                  refine lv_aload_n hx hb d_M_isComparable_63 rfl (lv_at hl 2 rfl) ?_
                  refine lv_aload_n hx hb d_M_isComparable_64 rfl (lv_at hl 2 rfl) ?_
                  refine va_get (D := D) (ci := 10) (v := .ref (mm 3)) (C := "ValueTreesModel") (T := T_M) (N := 12) hx hb ht in_M hown hK.1 hM.1 0 rfl rfl 2 (by decide) (ht _ q541) (fun _ h9 => h9) rfl d_M_isComparable_65 ?_
                  refine lv_iload_n hx hb d_M_isComparable_68 rfl (lv_at hl 3 rfl) ?_
                  refine z_iald hx hb hK (hM.1 3 _ rfl) t rfl (by omega) (by decide) d_M_isComparable_69 ?_
                  rw [e3]
                  refine z_callR (va_runV (C := "ValueTreesModel") (As := [.int (nI kr)]) (rest := []) ⟨hx, hb, hml, hown, hts⟩ (ih kr (by omega) (by have := r7; rw [hL, hR] at this; simp only [oP] at this; omega)) ⟨callB_of 1 hts (gI gd_up gd_c q588) rfl rfl rfl (ht _ q10) (ht _ q585) hd_M_isComparable ⟨Nat.le_refl _, by show 8 + (4 + 11) + 23 * d ≤ 23 * (d + 1); omega⟩, ht _ q587, ht _ qs14⟩ (z_preV hK (va_recv hK.1 hM.1 (ci := 10) (q0 := 0) rfl rfl)) rfl rfl hl.1 rfl (lv_room (Nat.le_of_ble_eq_true rfl)) d_M_isComparable_70 ⟨Nat.zero_le _, Nat.zero_le _⟩) (fun v81 hv80 => ?_)
                  have hv80 : v81 = .int (if tC (tb kr) = true then 1 else 0) := hv80
                  cases hq82 : tC (tb kr) with
                  | false =>
                    rw [hq82, if_neg (by decide)] at hv80
                    subst hv80
                    refine lv_if_eq (tgt := 80) hx hb d_M_isComparable_73 (by decide) (fun _ => ?_) (fun c83 => absurd c83 (by decide))
                    refine lv_iconst (v := 0) hx hb d_M_isComparable_80 (by decide) ?_
                    exact z_zretR hx hb hr hlocks d_M_isComparable_81 rfl (by first | (exfalso; omega) | (rw [r9, hL, hR]; simp [oB, hq76, hq82, nc41, nc55, nc69, nc72]) | (rw [r9, hL, hR]; simp [oB, hq76, hq82, nc41, nc55, nc69, nc72]; omega))
                  | true =>
                    rw [hq82, if_pos rfl] at hv80
                    subst hv80
                    refine lv_if_eq (tgt := 80) hx hb d_M_isComparable_73 (by decide) (fun c84 => absurd c84 (by decide)) (fun _ => ?_)
                    refine lv_iconst (v := 1) hx hb d_M_isComparable_76 (by decide) ?_
                    refine lv_goto (tgt := 81) hx hb d_M_isComparable_77 (by decide) ?_
                    exact z_zretR hx hb hr hlocks d_M_isComparable_81 rfl (by first | (exfalso; omega) | (rw [r9, hL, hR]; simp [oB, hq76, hq82, nc41, nc55, nc69, nc72]) | (rw [r9, hL, hR]; simp [oB, hq76, hq82, nc41, nc55, nc69, nc72]; omega))
abbrev b_M_isData : ByteArray := prog_12_method_5_code
abbrev y_M_isData : MethodName := ⟨"ValueTreesModel", "isData", "(I)Z"⟩
abbrev w_M_isData : List Cond := .code y_M_isData b_M_isData 4 (Option.some .boolean) :: gt
theorem hd_M_isData : (y_M_isData).cls ≠ "java/lang/invoke/MethodHandle" ∧ (y_M_isData).cls ≠ "java/lang/invoke/VarHandle" ∧ (parseMethodDescriptor (y_M_isData).desc).map (fun d => d.parameters.length) = some 1 := by decide +kernel
theorem d_M_isData_0 : decode b_M_isData 0 = .ok (.aload_n 0, 1) := by decide +kernel
theorem d_M_isData_1 : decode b_M_isData 1 = .ok (.getfield 7, 3) := by decide +kernel
theorem d_M_isData_4 : decode b_M_isData 4 = .ok (.iload_n 1, 1) := by decide +kernel
theorem d_M_isData_5 : decode b_M_isData 5 = .ok (.iaload, 1) := by decide +kernel
theorem d_M_isData_6 : decode b_M_isData 6 = .ok (.istore_n 2, 1) := by decide +kernel
theorem d_M_isData_7 : decode b_M_isData 7 = .ok (.iload_n 2, 1) := by decide +kernel
theorem d_M_isData_8 : decode b_M_isData 8 = .ok (.bipush 9, 2) := by decide +kernel
theorem d_M_isData_10 : decode b_M_isData 10 = .ok (.if_icmp .eq 21, 3) := by decide +kernel
theorem d_M_isData_13 : decode b_M_isData 13 = .ok (.iload_n 2, 1) := by decide +kernel
theorem d_M_isData_14 : decode b_M_isData 14 = .ok (.bipush 13, 2) := by decide +kernel
theorem d_M_isData_16 : decode b_M_isData 16 = .ok (.if_icmp .eq 15, 3) := by decide +kernel
theorem d_M_isData_19 : decode b_M_isData 19 = .ok (.iload_n 2, 1) := by decide +kernel
theorem d_M_isData_20 : decode b_M_isData 20 = .ok (.bipush 16, 2) := by decide +kernel
theorem d_M_isData_22 : decode b_M_isData 22 = .ok (.if_icmp .eq 9, 3) := by decide +kernel
theorem d_M_isData_25 : decode b_M_isData 25 = .ok (.iload_n 2, 1) := by decide +kernel
theorem d_M_isData_26 : decode b_M_isData 26 = .ok (.bipush 17, 2) := by decide +kernel
theorem d_M_isData_28 : decode b_M_isData 28 = .ok (.if_icmp .ne 7, 3) := by decide +kernel
theorem d_M_isData_31 : decode b_M_isData 31 = .ok (.iconst 1, 1) := by decide +kernel
theorem d_M_isData_32 : decode b_M_isData 32 = .ok (.goto 4, 3) := by decide +kernel
theorem d_M_isData_35 : decode b_M_isData 35 = .ok (.iconst 0, 1) := by decide +kernel
theorem d_M_isData_36 : decode b_M_isData 36 = .ok (.istore_n 3, 1) := by decide +kernel
theorem d_M_isData_37 : decode b_M_isData 37 = .ok (.iload_n 3, 1) := by decide +kernel
theorem d_M_isData_38 : decode b_M_isData 38 = .ok (.ifCond .ne 51, 3) := by decide +kernel
theorem d_M_isData_41 : decode b_M_isData 41 = .ok (.aload_n 0, 1) := by decide +kernel
theorem d_M_isData_42 : decode b_M_isData 42 = .ok (.getfield 13, 3) := by decide +kernel
theorem d_M_isData_45 : decode b_M_isData 45 = .ok (.iload_n 1, 1) := by decide +kernel
theorem d_M_isData_46 : decode b_M_isData 46 = .ok (.iaload, 1) := by decide +kernel
theorem d_M_isData_47 : decode b_M_isData 47 = .ok (.ifCond .lt 16, 3) := by decide +kernel
theorem d_M_isData_50 : decode b_M_isData 50 = .ok (.aload_n 0, 1) := by decide +kernel
theorem d_M_isData_51 : decode b_M_isData 51 = .ok (.aload_n 0, 1) := by decide +kernel
theorem d_M_isData_52 : decode b_M_isData 52 = .ok (.getfield 13, 3) := by decide +kernel
theorem d_M_isData_55 : decode b_M_isData 55 = .ok (.iload_n 1, 1) := by decide +kernel
theorem d_M_isData_56 : decode b_M_isData 56 = .ok (.iaload, 1) := by decide +kernel
theorem d_M_isData_57 : decode b_M_isData 57 = .ok (.invokevirtual 50, 3) := by decide +kernel
theorem d_M_isData_60 : decode b_M_isData 60 = .ok (.ifCond .eq 29, 3) := by decide +kernel
theorem d_M_isData_63 : decode b_M_isData 63 = .ok (.aload_n 0, 1) := by decide +kernel
theorem d_M_isData_64 : decode b_M_isData 64 = .ok (.getfield 16, 3) := by decide +kernel
theorem d_M_isData_67 : decode b_M_isData 67 = .ok (.iload_n 1, 1) := by decide +kernel
theorem d_M_isData_68 : decode b_M_isData 68 = .ok (.iaload, 1) := by decide +kernel
theorem d_M_isData_69 : decode b_M_isData 69 = .ok (.ifCond .lt 16, 3) := by decide +kernel
theorem d_M_isData_72 : decode b_M_isData 72 = .ok (.aload_n 0, 1) := by decide +kernel
theorem d_M_isData_73 : decode b_M_isData 73 = .ok (.aload_n 0, 1) := by decide +kernel
theorem d_M_isData_74 : decode b_M_isData 74 = .ok (.getfield 16, 3) := by decide +kernel
theorem d_M_isData_77 : decode b_M_isData 77 = .ok (.iload_n 1, 1) := by decide +kernel
theorem d_M_isData_78 : decode b_M_isData 78 = .ok (.iaload, 1) := by decide +kernel
theorem d_M_isData_79 : decode b_M_isData 79 = .ok (.invokevirtual 50, 3) := by decide +kernel
theorem d_M_isData_82 : decode b_M_isData 82 = .ok (.ifCond .eq 7, 3) := by decide +kernel
theorem d_M_isData_85 : decode b_M_isData 85 = .ok (.iconst 1, 1) := by decide +kernel
theorem d_M_isData_86 : decode b_M_isData 86 = .ok (.goto 4, 3) := by decide +kernel
theorem d_M_isData_89 : decode b_M_isData 89 = .ok (.iconst 0, 1) := by decide +kernel
theorem d_M_isData_90 : decode b_M_isData 90 = .ok (.ireturn, 1) := by decide +kernel
set_option maxHeartbeats 4000000 in
set_option maxRecDepth 100000 in
theorem c_M_isData (l : Launch) (D : va_G) (dT : Nat → ClassId) (H : Heap) (mm : Nat → Nat) (wd lf rt : Nat → Int32) (tc : Nat) (ty : Nat → Int32) (F : Nat → Nat) (sz : Nat → Int32) (Wk : Nat → Nat) (wz : Nat) (dg : Nat → Nat) (dc : Nat) (sh : Nat → Nat) (hM : mAt D dT mm wd lf rt tc ty F sz Wk wz dg dc sh H) (tb : Nat → TR) (hO : tOK tb tc) (hT : mT tb tc wd lf rt) : ∀ (d : Nat) (t : Nat), t < tc → tP (tb t) ≤ d → Met l y_M_isData w_M_isData ({ frames := d, cells := 0, slots := 0, locals := 23 * d }) (z_P D dT [.ref (mm 0), .int (nI t)] H) (z_R (fun v => v = .int (if tD (tb t) = true then 1 else 0))) 0 0 (fun _ => False) := by
  intro d
  induction d with
  | zero =>
    intro t htl hd
    obtain ⟨r1, r2, r2b, r3, r4, r5, r6, r7, r8, r9, r10, r11, r12⟩ := hO.2.2 t htl
    omega
  | succ d ih =>
    intro t htl hd
    refine Met.ofW (cc := b_M_isData) (maxL := 4) (ret := (Option.some .boolean)) (by decide) rfl ?_
    intro p e s m args below meth c s₁ B hml hv
    obtain ⟨rfl, rfl, hK⟩ := hv
    have hx := B.exec
    have hb := B.bytes
    have hr := B.returns
    have hts := atoms_spec (ws := w_M_isData) B.pre
    have ht : ∀ w9 ∈ gt, w9.before [.ref (mm 0), .int (nI t)].toArray s = true := fun w9 h => hts w9 (List.mem_cons_of_mem _ h)
    have hown : s.vm.findClass "ValueTreesModel" = some m.cls := findClass_of_methodNamed B.named
    have hlocks := B.notSynchronized
    have hl := lv_entry ([.ref (mm 0), .int (nI t)]) (n := 4) (Nat.le_of_ble_eq_true rfl)
    rw [lg_entry_eq]
    generalize (lg_sl ([.ref (mm 0), .int (nI t)]) ++ List.replicate (4 - (lg_sl ([.ref (mm 0), .int (nI t)])).length) Slot.unset).toArray = ls at hl ⊢
    have hl : lv_has ls 4 [(0, .ref (mm 0)), (1, .int (nI t))] := hl
    obtain ⟨e1, e2, e3⟩ := hT t htl
    obtain ⟨r1, r2, r2b, r3, r4, r5, r6, r7, r8, r9, r10, r11, r12⟩ := hO.2.2 t htl
    have htc := hO.1
    cases hL : tL (tb t) with
    | none =>
      rw [hL] at e2
      have e2 : lf t = -1 := e2
      have wL : tW (tb t) < 10 := r3.mp hL
      cases hR : tR (tb t) with
      | none =>
        rw [hR] at e3
        have e3 : rt t = -1 := e3
        have wR : tW (tb t) < 14 := r4.mp hR
        refine lv_aload_n hx hb d_M_isData_0 rfl (lv_at hl 0 rfl) ?_
        refine va_get (D := D) (ci := 10) (v := .ref (mm 1)) (C := "ValueTreesModel") (T := T_M) (N := 12) hx hb ht in_M hown hK.1 hM.1 0 rfl rfl 0 (by decide) (ht _ q539) (fun _ h9 => h9) rfl d_M_isData_1 ?_
        refine lv_iload_n hx hb d_M_isData_4 rfl (lv_at hl 1 rfl) ?_
        refine z_iald hx hb hK (hM.1 1 _ rfl) t rfl (by omega) (by decide) d_M_isData_5 ?_
        rw [e1]
        refine lv_istore_n (lv' := [(2, .int (nI (tW (tb t)))), (0, .ref (mm 0)), (1, .int (nI t))]) hx hb d_M_isData_6 rfl hl (by decide) rfl (fun ls hl => ?_)
        refine lv_iload_n hx hb d_M_isData_7 rfl (lv_at hl 0 rfl) ?_
        refine lv_bipush (v := 9) hx hb d_M_isData_8 (by decide) ?_
        refine lv_icmp_eq (tgt := 31) hx hb d_M_isData_10 (by decide) (fun c1 => ?_) (fun c1 => ?_)
        · have nc1 : (tW (tb t)) = 9 := (nI_eq (a := (tW (tb t))) (b := 9) (by omega) (by omega)).mp c1
          refine lv_iconst (v := 1) hx hb d_M_isData_31 (by decide) ?_
          refine lv_goto (tgt := 36) hx hb d_M_isData_32 (by decide) ?_
          refine lv_istore_n (lv' := [(3, .int 1), (2, .int (nI (tW (tb t)))), (0, .ref (mm 0)), (1, .int (nI t))]) hx hb d_M_isData_36 rfl hl (by decide) rfl (fun ls hl => ?_)
          refine lv_iload_n hx hb d_M_isData_37 rfl (lv_at hl 0 rfl) ?_
          refine lv_if_ne (tgt := 89) hx hb d_M_isData_38 (by decide) (fun _ => ?_) (fun c2 => absurd c2 (by decide))
          refine lv_iconst (v := 0) hx hb d_M_isData_89 (by decide) ?_
          exact z_zretR hx hb hr hlocks d_M_isData_90 rfl (by first | (exfalso; omega) | (rw [r10, hL, hR]; simp [oB, nc1]) | (rw [r10, hL, hR]; simp [oB, nc1]; omega))
        · have nc1 : ¬ (tW (tb t)) = 9 := fun h9 => c1 ((nI_eq (a := (tW (tb t))) (b := 9) (by omega) (by omega)).mpr h9)
          refine lv_iload_n hx hb d_M_isData_13 rfl (lv_at hl 0 rfl) ?_
          refine lv_bipush (v := 13) hx hb d_M_isData_14 (by decide) ?_
          refine lv_icmp_eq (tgt := 31) hx hb d_M_isData_16 (by decide) (fun c3 => ?_) (fun c3 => ?_)
          · have nc3 : (tW (tb t)) = 13 := (nI_eq (a := (tW (tb t))) (b := 13) (by omega) (by omega)).mp c3
            refine lv_iconst (v := 1) hx hb d_M_isData_31 (by decide) ?_
            refine lv_goto (tgt := 36) hx hb d_M_isData_32 (by decide) ?_
            refine lv_istore_n (lv' := [(3, .int 1), (2, .int (nI (tW (tb t)))), (0, .ref (mm 0)), (1, .int (nI t))]) hx hb d_M_isData_36 rfl hl (by decide) rfl (fun ls hl => ?_)
            refine lv_iload_n hx hb d_M_isData_37 rfl (lv_at hl 0 rfl) ?_
            refine lv_if_ne (tgt := 89) hx hb d_M_isData_38 (by decide) (fun _ => ?_) (fun c4 => absurd c4 (by decide))
            refine lv_iconst (v := 0) hx hb d_M_isData_89 (by decide) ?_
            exact z_zretR hx hb hr hlocks d_M_isData_90 rfl (by first | (exfalso; omega) | (rw [r10, hL, hR]; simp [oB, nc1, nc3]) | (rw [r10, hL, hR]; simp [oB, nc1, nc3]; omega))
          · have nc3 : ¬ (tW (tb t)) = 13 := fun h9 => c3 ((nI_eq (a := (tW (tb t))) (b := 13) (by omega) (by omega)).mpr h9)
            refine lv_iload_n hx hb d_M_isData_19 rfl (lv_at hl 0 rfl) ?_
            refine lv_bipush (v := 16) hx hb d_M_isData_20 (by decide) ?_
            refine lv_icmp_eq (tgt := 31) hx hb d_M_isData_22 (by decide) (fun c5 => ?_) (fun c5 => ?_)
            · have nc5 : (tW (tb t)) = 16 := (nI_eq (a := (tW (tb t))) (b := 16) (by omega) (by omega)).mp c5
              refine lv_iconst (v := 1) hx hb d_M_isData_31 (by decide) ?_
              refine lv_goto (tgt := 36) hx hb d_M_isData_32 (by decide) ?_
              refine lv_istore_n (lv' := [(3, .int 1), (2, .int (nI (tW (tb t)))), (0, .ref (mm 0)), (1, .int (nI t))]) hx hb d_M_isData_36 rfl hl (by decide) rfl (fun ls hl => ?_)
              refine lv_iload_n hx hb d_M_isData_37 rfl (lv_at hl 0 rfl) ?_
              refine lv_if_ne (tgt := 89) hx hb d_M_isData_38 (by decide) (fun _ => ?_) (fun c6 => absurd c6 (by decide))
              refine lv_iconst (v := 0) hx hb d_M_isData_89 (by decide) ?_
              exact z_zretR hx hb hr hlocks d_M_isData_90 rfl (by first | (exfalso; omega) | (rw [r10, hL, hR]; simp [oB, nc1, nc3, nc5]) | (rw [r10, hL, hR]; simp [oB, nc1, nc3, nc5]; omega))
            · have nc5 : ¬ (tW (tb t)) = 16 := fun h9 => c5 ((nI_eq (a := (tW (tb t))) (b := 16) (by omega) (by omega)).mpr h9)
              refine lv_iload_n hx hb d_M_isData_25 rfl (lv_at hl 0 rfl) ?_
              refine lv_bipush (v := 17) hx hb d_M_isData_26 (by decide) ?_
              refine lv_icmp_ne (tgt := 35) hx hb d_M_isData_28 (by decide) (fun c7 => ?_) (fun c7 => ?_)
              · have nc7 : ¬ (tW (tb t)) = 17 := fun h9 => c7 ((nI_eq (a := (tW (tb t))) (b := 17) (by omega) (by omega)).mpr h9)
                refine lv_iconst (v := 0) hx hb d_M_isData_35 (by decide) ?_
                refine lv_istore_n (lv' := [(3, .int 0), (2, .int (nI (tW (tb t)))), (0, .ref (mm 0)), (1, .int (nI t))]) hx hb d_M_isData_36 rfl hl (by decide) rfl (fun ls hl => ?_)
                refine lv_iload_n hx hb d_M_isData_37 rfl (lv_at hl 0 rfl) ?_
                refine lv_if_ne (tgt := 89) hx hb d_M_isData_38 (by decide) (fun c8 => absurd c8 (by decide)) (fun _ => ?_)
                refine lv_aload_n hx hb d_M_isData_41 rfl (lv_at hl 2 rfl) ?_
                refine va_get (D := D) (ci := 10) (v := .ref (mm 2)) (C := "ValueTreesModel") (T := T_M) (N := 12) hx hb ht in_M hown hK.1 hM.1 0 rfl rfl 1 (by decide) (ht _ q540) (fun _ h9 => h9) rfl d_M_isData_42 ?_
                refine lv_iload_n hx hb d_M_isData_45 rfl (lv_at hl 3 rfl) ?_
                refine z_iald hx hb hK (hM.1 2 _ rfl) t rfl (by omega) (by decide) d_M_isData_46 ?_
                rw [e2]
                refine lv_if_lt (tgt := 63) hx hb d_M_isData_47 (by decide) (fun _ => ?_) (fun c9 => absurd c9 (by decide))
                refine lv_aload_n hx hb d_M_isData_63 rfl (lv_at hl 2 rfl) ?_
                refine va_get (D := D) (ci := 10) (v := .ref (mm 3)) (C := "ValueTreesModel") (T := T_M) (N := 12) hx hb ht in_M hown hK.1 hM.1 0 rfl rfl 2 (by decide) (ht _ q541) (fun _ h9 => h9) rfl d_M_isData_64 ?_
                refine lv_iload_n hx hb d_M_isData_67 rfl (lv_at hl 3 rfl) ?_
                refine z_iald hx hb hK (hM.1 3 _ rfl) t rfl (by omega) (by decide) d_M_isData_68 ?_
                rw [e3]
                refine lv_if_lt (tgt := 85) hx hb d_M_isData_69 (by decide) (fun _ => ?_) (fun c10 => absurd c10 (by decide))
                refine lv_iconst (v := 1) hx hb d_M_isData_85 (by decide) ?_
                refine lv_goto (tgt := 90) hx hb d_M_isData_86 (by decide) ?_
                exact z_zretR hx hb hr hlocks d_M_isData_90 rfl (by first | (exfalso; omega) | (rw [r10, hL, hR]; simp [oB, nc1, nc3, nc5, nc7]) | (rw [r10, hL, hR]; simp [oB, nc1, nc3, nc5, nc7]; omega))
              · have nc7 : (tW (tb t)) = 17 := (nI_eq (a := (tW (tb t))) (b := 17) (by omega) (by omega)).mp c7
                refine lv_iconst (v := 1) hx hb d_M_isData_31 (by decide) ?_
                refine lv_goto (tgt := 36) hx hb d_M_isData_32 (by decide) ?_
                refine lv_istore_n (lv' := [(3, .int 1), (2, .int (nI (tW (tb t)))), (0, .ref (mm 0)), (1, .int (nI t))]) hx hb d_M_isData_36 rfl hl (by decide) rfl (fun ls hl => ?_)
                refine lv_iload_n hx hb d_M_isData_37 rfl (lv_at hl 0 rfl) ?_
                refine lv_if_ne (tgt := 89) hx hb d_M_isData_38 (by decide) (fun _ => ?_) (fun c11 => absurd c11 (by decide))
                refine lv_iconst (v := 0) hx hb d_M_isData_89 (by decide) ?_
                exact z_zretR hx hb hr hlocks d_M_isData_90 rfl (by first | (exfalso; omega) | (rw [r10, hL, hR]; simp [oB, nc1, nc3, nc5, nc7]) | (rw [r10, hL, hR]; simp [oB, nc1, nc3, nc5, nc7]; omega))
      | some kr =>
        rw [hR] at e3
        have e3 : rt t = nI kr := e3
        have hkr : kr < t := r6 kr hR
        have wR : ¬ tW (tb t) < 14 := fun h9 => by have h8 := r4.mpr h9; rw [hR] at h8; cases h8
        exact absurd wL (by omega)
    | some kl =>
      rw [hL] at e2
      have e2 : lf t = nI kl := e2
      have hkl : kl < t := r5 kl hL
      have wL : ¬ tW (tb t) < 10 := fun h9 => by have h8 := r3.mpr h9; rw [hL] at h8; cases h8
      cases hR : tR (tb t) with
      | none =>
        rw [hR] at e3
        have e3 : rt t = -1 := e3
        have wR : tW (tb t) < 14 := r4.mp hR
        refine lv_aload_n hx hb d_M_isData_0 rfl (lv_at hl 0 rfl) ?_
        refine va_get (D := D) (ci := 10) (v := .ref (mm 1)) (C := "ValueTreesModel") (T := T_M) (N := 12) hx hb ht in_M hown hK.1 hM.1 0 rfl rfl 0 (by decide) (ht _ q539) (fun _ h9 => h9) rfl d_M_isData_1 ?_
        refine lv_iload_n hx hb d_M_isData_4 rfl (lv_at hl 1 rfl) ?_
        refine z_iald hx hb hK (hM.1 1 _ rfl) t rfl (by omega) (by decide) d_M_isData_5 ?_
        rw [e1]
        refine lv_istore_n (lv' := [(2, .int (nI (tW (tb t)))), (0, .ref (mm 0)), (1, .int (nI t))]) hx hb d_M_isData_6 rfl hl (by decide) rfl (fun ls hl => ?_)
        refine lv_iload_n hx hb d_M_isData_7 rfl (lv_at hl 0 rfl) ?_
        refine lv_bipush (v := 9) hx hb d_M_isData_8 (by decide) ?_
        refine lv_icmp_eq (tgt := 31) hx hb d_M_isData_10 (by decide) (fun c12 => ?_) (fun c12 => ?_)
        · have nc12 : (tW (tb t)) = 9 := (nI_eq (a := (tW (tb t))) (b := 9) (by omega) (by omega)).mp c12
          refine lv_iconst (v := 1) hx hb d_M_isData_31 (by decide) ?_
          refine lv_goto (tgt := 36) hx hb d_M_isData_32 (by decide) ?_
          refine lv_istore_n (lv' := [(3, .int 1), (2, .int (nI (tW (tb t)))), (0, .ref (mm 0)), (1, .int (nI t))]) hx hb d_M_isData_36 rfl hl (by decide) rfl (fun ls hl => ?_)
          refine lv_iload_n hx hb d_M_isData_37 rfl (lv_at hl 0 rfl) ?_
          refine lv_if_ne (tgt := 89) hx hb d_M_isData_38 (by decide) (fun _ => ?_) (fun c13 => absurd c13 (by decide))
          refine lv_iconst (v := 0) hx hb d_M_isData_89 (by decide) ?_
          exact z_zretR hx hb hr hlocks d_M_isData_90 rfl (by first | (exfalso; omega) | (rw [r10, hL, hR]; simp [oB, nc12]) | (rw [r10, hL, hR]; simp [oB, nc12]; omega))
        · have nc12 : ¬ (tW (tb t)) = 9 := fun h9 => c12 ((nI_eq (a := (tW (tb t))) (b := 9) (by omega) (by omega)).mpr h9)
          refine lv_iload_n hx hb d_M_isData_13 rfl (lv_at hl 0 rfl) ?_
          refine lv_bipush (v := 13) hx hb d_M_isData_14 (by decide) ?_
          refine lv_icmp_eq (tgt := 31) hx hb d_M_isData_16 (by decide) (fun c14 => ?_) (fun c14 => ?_)
          · have nc14 : (tW (tb t)) = 13 := (nI_eq (a := (tW (tb t))) (b := 13) (by omega) (by omega)).mp c14
            refine lv_iconst (v := 1) hx hb d_M_isData_31 (by decide) ?_
            refine lv_goto (tgt := 36) hx hb d_M_isData_32 (by decide) ?_
            refine lv_istore_n (lv' := [(3, .int 1), (2, .int (nI (tW (tb t)))), (0, .ref (mm 0)), (1, .int (nI t))]) hx hb d_M_isData_36 rfl hl (by decide) rfl (fun ls hl => ?_)
            refine lv_iload_n hx hb d_M_isData_37 rfl (lv_at hl 0 rfl) ?_
            refine lv_if_ne (tgt := 89) hx hb d_M_isData_38 (by decide) (fun _ => ?_) (fun c15 => absurd c15 (by decide))
            refine lv_iconst (v := 0) hx hb d_M_isData_89 (by decide) ?_
            exact z_zretR hx hb hr hlocks d_M_isData_90 rfl (by first | (exfalso; omega) | (rw [r10, hL, hR]; simp [oB, nc12, nc14]) | (rw [r10, hL, hR]; simp [oB, nc12, nc14]; omega))
          · have nc14 : ¬ (tW (tb t)) = 13 := fun h9 => c14 ((nI_eq (a := (tW (tb t))) (b := 13) (by omega) (by omega)).mpr h9)
            refine lv_iload_n hx hb d_M_isData_19 rfl (lv_at hl 0 rfl) ?_
            refine lv_bipush (v := 16) hx hb d_M_isData_20 (by decide) ?_
            refine lv_icmp_eq (tgt := 31) hx hb d_M_isData_22 (by decide) (fun c16 => ?_) (fun c16 => ?_)
            · have nc16 : (tW (tb t)) = 16 := (nI_eq (a := (tW (tb t))) (b := 16) (by omega) (by omega)).mp c16
              refine lv_iconst (v := 1) hx hb d_M_isData_31 (by decide) ?_
              refine lv_goto (tgt := 36) hx hb d_M_isData_32 (by decide) ?_
              refine lv_istore_n (lv' := [(3, .int 1), (2, .int (nI (tW (tb t)))), (0, .ref (mm 0)), (1, .int (nI t))]) hx hb d_M_isData_36 rfl hl (by decide) rfl (fun ls hl => ?_)
              refine lv_iload_n hx hb d_M_isData_37 rfl (lv_at hl 0 rfl) ?_
              refine lv_if_ne (tgt := 89) hx hb d_M_isData_38 (by decide) (fun _ => ?_) (fun c17 => absurd c17 (by decide))
              refine lv_iconst (v := 0) hx hb d_M_isData_89 (by decide) ?_
              exact z_zretR hx hb hr hlocks d_M_isData_90 rfl (by first | (exfalso; omega) | (rw [r10, hL, hR]; simp [oB, nc12, nc14, nc16]) | (rw [r10, hL, hR]; simp [oB, nc12, nc14, nc16]; omega))
            · have nc16 : ¬ (tW (tb t)) = 16 := fun h9 => c16 ((nI_eq (a := (tW (tb t))) (b := 16) (by omega) (by omega)).mpr h9)
              refine lv_iload_n hx hb d_M_isData_25 rfl (lv_at hl 0 rfl) ?_
              refine lv_bipush (v := 17) hx hb d_M_isData_26 (by decide) ?_
              refine lv_icmp_ne (tgt := 35) hx hb d_M_isData_28 (by decide) (fun c18 => ?_) (fun c18 => ?_)
              · have nc18 : ¬ (tW (tb t)) = 17 := fun h9 => c18 ((nI_eq (a := (tW (tb t))) (b := 17) (by omega) (by omega)).mpr h9)
                refine lv_iconst (v := 0) hx hb d_M_isData_35 (by decide) ?_
                refine lv_istore_n (lv' := [(3, .int 0), (2, .int (nI (tW (tb t)))), (0, .ref (mm 0)), (1, .int (nI t))]) hx hb d_M_isData_36 rfl hl (by decide) rfl (fun ls hl => ?_)
                refine lv_iload_n hx hb d_M_isData_37 rfl (lv_at hl 0 rfl) ?_
                refine lv_if_ne (tgt := 89) hx hb d_M_isData_38 (by decide) (fun c19 => absurd c19 (by decide)) (fun _ => ?_)
                refine lv_aload_n hx hb d_M_isData_41 rfl (lv_at hl 2 rfl) ?_
                refine va_get (D := D) (ci := 10) (v := .ref (mm 2)) (C := "ValueTreesModel") (T := T_M) (N := 12) hx hb ht in_M hown hK.1 hM.1 0 rfl rfl 1 (by decide) (ht _ q540) (fun _ h9 => h9) rfl d_M_isData_42 ?_
                refine lv_iload_n hx hb d_M_isData_45 rfl (lv_at hl 3 rfl) ?_
                refine z_iald hx hb hK (hM.1 2 _ rfl) t rfl (by omega) (by decide) d_M_isData_46 ?_
                rw [e2]
                refine lv_if_lt (tgt := 63) hx hb d_M_isData_47 (by decide) (fun c20 => absurd c20 (nI_pos (by omega))) (fun c20 => ?_)
                refine lv_aload_n hx hb d_M_isData_50 rfl (lv_at hl 2 rfl) ?_
                refine lv_aload_n hx hb d_M_isData_51 rfl (lv_at hl 2 rfl) ?_
                refine va_get (D := D) (ci := 10) (v := .ref (mm 2)) (C := "ValueTreesModel") (T := T_M) (N := 12) hx hb ht in_M hown hK.1 hM.1 0 rfl rfl 1 (by decide) (ht _ q540) (fun _ h9 => h9) rfl d_M_isData_52 ?_
                refine lv_iload_n hx hb d_M_isData_55 rfl (lv_at hl 3 rfl) ?_
                refine z_iald hx hb hK (hM.1 2 _ rfl) t rfl (by omega) (by decide) d_M_isData_56 ?_
                rw [e2]
                refine z_callR (va_runV (C := "ValueTreesModel") (As := [.int (nI kl)]) (rest := []) ⟨hx, hb, hml, hown, hts⟩ (ih kl (by omega) (by have := r7; rw [hL, hR] at this; simp only [oP] at this; omega)) ⟨callB_of 1 hts (gI gd_up gd_c q608) rfl rfl rfl (ht _ q10) (ht _ q605) hd_M_isData ⟨Nat.le_refl _, by show 8 + (4 + 11) + 23 * d ≤ 23 * (d + 1); omega⟩, ht _ q607, ht _ qs18⟩ (z_preV hK (va_recv hK.1 hM.1 (ci := 10) (q0 := 0) rfl rfl)) rfl rfl hl.1 rfl (lv_room (Nat.le_of_ble_eq_true rfl)) d_M_isData_57 ⟨Nat.zero_le _, Nat.zero_le _⟩) (fun v22 hv21 => ?_)
                have hv21 : v22 = .int (if tD (tb kl) = true then 1 else 0) := hv21
                cases hq23 : tD (tb kl) with
                | false =>
                  rw [hq23, if_neg (by decide)] at hv21
                  subst hv21
                  refine lv_if_eq (tgt := 89) hx hb d_M_isData_60 (by decide) (fun _ => ?_) (fun c24 => absurd c24 (by decide))
                  refine lv_iconst (v := 0) hx hb d_M_isData_89 (by decide) ?_
                  exact z_zretR hx hb hr hlocks d_M_isData_90 rfl (by first | (exfalso; omega) | (rw [r10, hL, hR]; simp [oB, hq23, nc12, nc14, nc16, nc18]) | (rw [r10, hL, hR]; simp [oB, hq23, nc12, nc14, nc16, nc18]; omega))
                | true =>
                  rw [hq23, if_pos rfl] at hv21
                  subst hv21
                  refine lv_if_eq (tgt := 89) hx hb d_M_isData_60 (by decide) (fun c25 => absurd c25 (by decide)) (fun _ => ?_)
                  refine lv_aload_n hx hb d_M_isData_63 rfl (lv_at hl 2 rfl) ?_
                  refine va_get (D := D) (ci := 10) (v := .ref (mm 3)) (C := "ValueTreesModel") (T := T_M) (N := 12) hx hb ht in_M hown hK.1 hM.1 0 rfl rfl 2 (by decide) (ht _ q541) (fun _ h9 => h9) rfl d_M_isData_64 ?_
                  refine lv_iload_n hx hb d_M_isData_67 rfl (lv_at hl 3 rfl) ?_
                  refine z_iald hx hb hK (hM.1 3 _ rfl) t rfl (by omega) (by decide) d_M_isData_68 ?_
                  rw [e3]
                  refine lv_if_lt (tgt := 85) hx hb d_M_isData_69 (by decide) (fun _ => ?_) (fun c26 => absurd c26 (by decide))
                  refine lv_iconst (v := 1) hx hb d_M_isData_85 (by decide) ?_
                  refine lv_goto (tgt := 90) hx hb d_M_isData_86 (by decide) ?_
                  exact z_zretR hx hb hr hlocks d_M_isData_90 rfl (by first | (exfalso; omega) | (rw [r10, hL, hR]; simp [oB, hq23, nc12, nc14, nc16, nc18]) | (rw [r10, hL, hR]; simp [oB, hq23, nc12, nc14, nc16, nc18]; omega))
              · have nc18 : (tW (tb t)) = 17 := (nI_eq (a := (tW (tb t))) (b := 17) (by omega) (by omega)).mp c18
                refine lv_iconst (v := 1) hx hb d_M_isData_31 (by decide) ?_
                refine lv_goto (tgt := 36) hx hb d_M_isData_32 (by decide) ?_
                refine lv_istore_n (lv' := [(3, .int 1), (2, .int (nI (tW (tb t)))), (0, .ref (mm 0)), (1, .int (nI t))]) hx hb d_M_isData_36 rfl hl (by decide) rfl (fun ls hl => ?_)
                refine lv_iload_n hx hb d_M_isData_37 rfl (lv_at hl 0 rfl) ?_
                refine lv_if_ne (tgt := 89) hx hb d_M_isData_38 (by decide) (fun _ => ?_) (fun c27 => absurd c27 (by decide))
                refine lv_iconst (v := 0) hx hb d_M_isData_89 (by decide) ?_
                exact z_zretR hx hb hr hlocks d_M_isData_90 rfl (by first | (exfalso; omega) | (rw [r10, hL, hR]; simp [oB, nc12, nc14, nc16, nc18]) | (rw [r10, hL, hR]; simp [oB, nc12, nc14, nc16, nc18]; omega))
      | some kr =>
        rw [hR] at e3
        have e3 : rt t = nI kr := e3
        have hkr : kr < t := r6 kr hR
        have wR : ¬ tW (tb t) < 14 := fun h9 => by have h8 := r4.mpr h9; rw [hR] at h8; cases h8
        refine lv_aload_n hx hb d_M_isData_0 rfl (lv_at hl 0 rfl) ?_
        refine va_get (D := D) (ci := 10) (v := .ref (mm 1)) (C := "ValueTreesModel") (T := T_M) (N := 12) hx hb ht in_M hown hK.1 hM.1 0 rfl rfl 0 (by decide) (ht _ q539) (fun _ h9 => h9) rfl d_M_isData_1 ?_
        refine lv_iload_n hx hb d_M_isData_4 rfl (lv_at hl 1 rfl) ?_
        refine z_iald hx hb hK (hM.1 1 _ rfl) t rfl (by omega) (by decide) d_M_isData_5 ?_
        rw [e1]
        refine lv_istore_n (lv' := [(2, .int (nI (tW (tb t)))), (0, .ref (mm 0)), (1, .int (nI t))]) hx hb d_M_isData_6 rfl hl (by decide) rfl (fun ls hl => ?_)
        refine lv_iload_n hx hb d_M_isData_7 rfl (lv_at hl 0 rfl) ?_
        refine lv_bipush (v := 9) hx hb d_M_isData_8 (by decide) ?_
        refine lv_icmp_eq (tgt := 31) hx hb d_M_isData_10 (by decide) (fun c28 => ?_) (fun c28 => ?_)
        · have nc28 : (tW (tb t)) = 9 := (nI_eq (a := (tW (tb t))) (b := 9) (by omega) (by omega)).mp c28
          refine lv_iconst (v := 1) hx hb d_M_isData_31 (by decide) ?_
          refine lv_goto (tgt := 36) hx hb d_M_isData_32 (by decide) ?_
          refine lv_istore_n (lv' := [(3, .int 1), (2, .int (nI (tW (tb t)))), (0, .ref (mm 0)), (1, .int (nI t))]) hx hb d_M_isData_36 rfl hl (by decide) rfl (fun ls hl => ?_)
          refine lv_iload_n hx hb d_M_isData_37 rfl (lv_at hl 0 rfl) ?_
          refine lv_if_ne (tgt := 89) hx hb d_M_isData_38 (by decide) (fun _ => ?_) (fun c29 => absurd c29 (by decide))
          refine lv_iconst (v := 0) hx hb d_M_isData_89 (by decide) ?_
          exact z_zretR hx hb hr hlocks d_M_isData_90 rfl (by first | (exfalso; omega) | (rw [r10, hL, hR]; simp [oB, nc28]) | (rw [r10, hL, hR]; simp [oB, nc28]; omega))
        · have nc28 : ¬ (tW (tb t)) = 9 := fun h9 => c28 ((nI_eq (a := (tW (tb t))) (b := 9) (by omega) (by omega)).mpr h9)
          refine lv_iload_n hx hb d_M_isData_13 rfl (lv_at hl 0 rfl) ?_
          refine lv_bipush (v := 13) hx hb d_M_isData_14 (by decide) ?_
          refine lv_icmp_eq (tgt := 31) hx hb d_M_isData_16 (by decide) (fun c30 => ?_) (fun c30 => ?_)
          · have nc30 : (tW (tb t)) = 13 := (nI_eq (a := (tW (tb t))) (b := 13) (by omega) (by omega)).mp c30
            refine lv_iconst (v := 1) hx hb d_M_isData_31 (by decide) ?_
            refine lv_goto (tgt := 36) hx hb d_M_isData_32 (by decide) ?_
            refine lv_istore_n (lv' := [(3, .int 1), (2, .int (nI (tW (tb t)))), (0, .ref (mm 0)), (1, .int (nI t))]) hx hb d_M_isData_36 rfl hl (by decide) rfl (fun ls hl => ?_)
            refine lv_iload_n hx hb d_M_isData_37 rfl (lv_at hl 0 rfl) ?_
            refine lv_if_ne (tgt := 89) hx hb d_M_isData_38 (by decide) (fun _ => ?_) (fun c31 => absurd c31 (by decide))
            refine lv_iconst (v := 0) hx hb d_M_isData_89 (by decide) ?_
            exact z_zretR hx hb hr hlocks d_M_isData_90 rfl (by first | (exfalso; omega) | (rw [r10, hL, hR]; simp [oB, nc28, nc30]) | (rw [r10, hL, hR]; simp [oB, nc28, nc30]; omega))
          · have nc30 : ¬ (tW (tb t)) = 13 := fun h9 => c30 ((nI_eq (a := (tW (tb t))) (b := 13) (by omega) (by omega)).mpr h9)
            refine lv_iload_n hx hb d_M_isData_19 rfl (lv_at hl 0 rfl) ?_
            refine lv_bipush (v := 16) hx hb d_M_isData_20 (by decide) ?_
            refine lv_icmp_eq (tgt := 31) hx hb d_M_isData_22 (by decide) (fun c32 => ?_) (fun c32 => ?_)
            · have nc32 : (tW (tb t)) = 16 := (nI_eq (a := (tW (tb t))) (b := 16) (by omega) (by omega)).mp c32
              refine lv_iconst (v := 1) hx hb d_M_isData_31 (by decide) ?_
              refine lv_goto (tgt := 36) hx hb d_M_isData_32 (by decide) ?_
              refine lv_istore_n (lv' := [(3, .int 1), (2, .int (nI (tW (tb t)))), (0, .ref (mm 0)), (1, .int (nI t))]) hx hb d_M_isData_36 rfl hl (by decide) rfl (fun ls hl => ?_)
              refine lv_iload_n hx hb d_M_isData_37 rfl (lv_at hl 0 rfl) ?_
              refine lv_if_ne (tgt := 89) hx hb d_M_isData_38 (by decide) (fun _ => ?_) (fun c33 => absurd c33 (by decide))
              refine lv_iconst (v := 0) hx hb d_M_isData_89 (by decide) ?_
              exact z_zretR hx hb hr hlocks d_M_isData_90 rfl (by first | (exfalso; omega) | (rw [r10, hL, hR]; simp [oB, nc28, nc30, nc32]) | (rw [r10, hL, hR]; simp [oB, nc28, nc30, nc32]; omega))
            · have nc32 : ¬ (tW (tb t)) = 16 := fun h9 => c32 ((nI_eq (a := (tW (tb t))) (b := 16) (by omega) (by omega)).mpr h9)
              refine lv_iload_n hx hb d_M_isData_25 rfl (lv_at hl 0 rfl) ?_
              refine lv_bipush (v := 17) hx hb d_M_isData_26 (by decide) ?_
              refine lv_icmp_ne (tgt := 35) hx hb d_M_isData_28 (by decide) (fun c34 => ?_) (fun c34 => ?_)
              · have nc34 : ¬ (tW (tb t)) = 17 := fun h9 => c34 ((nI_eq (a := (tW (tb t))) (b := 17) (by omega) (by omega)).mpr h9)
                refine lv_iconst (v := 0) hx hb d_M_isData_35 (by decide) ?_
                refine lv_istore_n (lv' := [(3, .int 0), (2, .int (nI (tW (tb t)))), (0, .ref (mm 0)), (1, .int (nI t))]) hx hb d_M_isData_36 rfl hl (by decide) rfl (fun ls hl => ?_)
                refine lv_iload_n hx hb d_M_isData_37 rfl (lv_at hl 0 rfl) ?_
                refine lv_if_ne (tgt := 89) hx hb d_M_isData_38 (by decide) (fun c35 => absurd c35 (by decide)) (fun _ => ?_)
                refine lv_aload_n hx hb d_M_isData_41 rfl (lv_at hl 2 rfl) ?_
                refine va_get (D := D) (ci := 10) (v := .ref (mm 2)) (C := "ValueTreesModel") (T := T_M) (N := 12) hx hb ht in_M hown hK.1 hM.1 0 rfl rfl 1 (by decide) (ht _ q540) (fun _ h9 => h9) rfl d_M_isData_42 ?_
                refine lv_iload_n hx hb d_M_isData_45 rfl (lv_at hl 3 rfl) ?_
                refine z_iald hx hb hK (hM.1 2 _ rfl) t rfl (by omega) (by decide) d_M_isData_46 ?_
                rw [e2]
                refine lv_if_lt (tgt := 63) hx hb d_M_isData_47 (by decide) (fun c36 => absurd c36 (nI_pos (by omega))) (fun c36 => ?_)
                refine lv_aload_n hx hb d_M_isData_50 rfl (lv_at hl 2 rfl) ?_
                refine lv_aload_n hx hb d_M_isData_51 rfl (lv_at hl 2 rfl) ?_
                refine va_get (D := D) (ci := 10) (v := .ref (mm 2)) (C := "ValueTreesModel") (T := T_M) (N := 12) hx hb ht in_M hown hK.1 hM.1 0 rfl rfl 1 (by decide) (ht _ q540) (fun _ h9 => h9) rfl d_M_isData_52 ?_
                refine lv_iload_n hx hb d_M_isData_55 rfl (lv_at hl 3 rfl) ?_
                refine z_iald hx hb hK (hM.1 2 _ rfl) t rfl (by omega) (by decide) d_M_isData_56 ?_
                rw [e2]
                refine z_callR (va_runV (C := "ValueTreesModel") (As := [.int (nI kl)]) (rest := []) ⟨hx, hb, hml, hown, hts⟩ (ih kl (by omega) (by have := r7; rw [hL, hR] at this; simp only [oP] at this; omega)) ⟨callB_of 1 hts (gI gd_up gd_c q608) rfl rfl rfl (ht _ q10) (ht _ q605) hd_M_isData ⟨Nat.le_refl _, by show 8 + (4 + 11) + 23 * d ≤ 23 * (d + 1); omega⟩, ht _ q607, ht _ qs18⟩ (z_preV hK (va_recv hK.1 hM.1 (ci := 10) (q0 := 0) rfl rfl)) rfl rfl hl.1 rfl (lv_room (Nat.le_of_ble_eq_true rfl)) d_M_isData_57 ⟨Nat.zero_le _, Nat.zero_le _⟩) (fun v38 hv37 => ?_)
                have hv37 : v38 = .int (if tD (tb kl) = true then 1 else 0) := hv37
                cases hq39 : tD (tb kl) with
                | false =>
                  rw [hq39, if_neg (by decide)] at hv37
                  subst hv37
                  refine lv_if_eq (tgt := 89) hx hb d_M_isData_60 (by decide) (fun _ => ?_) (fun c40 => absurd c40 (by decide))
                  refine lv_iconst (v := 0) hx hb d_M_isData_89 (by decide) ?_
                  exact z_zretR hx hb hr hlocks d_M_isData_90 rfl (by first | (exfalso; omega) | (rw [r10, hL, hR]; simp [oB, hq39, nc28, nc30, nc32, nc34]) | (rw [r10, hL, hR]; simp [oB, hq39, nc28, nc30, nc32, nc34]; omega))
                | true =>
                  rw [hq39, if_pos rfl] at hv37
                  subst hv37
                  refine lv_if_eq (tgt := 89) hx hb d_M_isData_60 (by decide) (fun c41 => absurd c41 (by decide)) (fun _ => ?_)
                  refine lv_aload_n hx hb d_M_isData_63 rfl (lv_at hl 2 rfl) ?_
                  refine va_get (D := D) (ci := 10) (v := .ref (mm 3)) (C := "ValueTreesModel") (T := T_M) (N := 12) hx hb ht in_M hown hK.1 hM.1 0 rfl rfl 2 (by decide) (ht _ q541) (fun _ h9 => h9) rfl d_M_isData_64 ?_
                  refine lv_iload_n hx hb d_M_isData_67 rfl (lv_at hl 3 rfl) ?_
                  refine z_iald hx hb hK (hM.1 3 _ rfl) t rfl (by omega) (by decide) d_M_isData_68 ?_
                  rw [e3]
                  refine lv_if_lt (tgt := 85) hx hb d_M_isData_69 (by decide) (fun c42 => absurd c42 (nI_pos (by omega))) (fun c42 => ?_)
                  refine lv_aload_n hx hb d_M_isData_72 rfl (lv_at hl 2 rfl) ?_
                  refine lv_aload_n hx hb d_M_isData_73 rfl (lv_at hl 2 rfl) ?_
                  refine va_get (D := D) (ci := 10) (v := .ref (mm 3)) (C := "ValueTreesModel") (T := T_M) (N := 12) hx hb ht in_M hown hK.1 hM.1 0 rfl rfl 2 (by decide) (ht _ q541) (fun _ h9 => h9) rfl d_M_isData_74 ?_
                  refine lv_iload_n hx hb d_M_isData_77 rfl (lv_at hl 3 rfl) ?_
                  refine z_iald hx hb hK (hM.1 3 _ rfl) t rfl (by omega) (by decide) d_M_isData_78 ?_
                  rw [e3]
                  refine z_callR (va_runV (C := "ValueTreesModel") (As := [.int (nI kr)]) (rest := []) ⟨hx, hb, hml, hown, hts⟩ (ih kr (by omega) (by have := r7; rw [hL, hR] at this; simp only [oP] at this; omega)) ⟨callB_of 1 hts (gI gd_up gd_c q608) rfl rfl rfl (ht _ q10) (ht _ q605) hd_M_isData ⟨Nat.le_refl _, by show 8 + (4 + 11) + 23 * d ≤ 23 * (d + 1); omega⟩, ht _ q607, ht _ qs18⟩ (z_preV hK (va_recv hK.1 hM.1 (ci := 10) (q0 := 0) rfl rfl)) rfl rfl hl.1 rfl (lv_room (Nat.le_of_ble_eq_true rfl)) d_M_isData_79 ⟨Nat.zero_le _, Nat.zero_le _⟩) (fun v44 hv43 => ?_)
                  have hv43 : v44 = .int (if tD (tb kr) = true then 1 else 0) := hv43
                  cases hq45 : tD (tb kr) with
                  | false =>
                    rw [hq45, if_neg (by decide)] at hv43
                    subst hv43
                    refine lv_if_eq (tgt := 89) hx hb d_M_isData_82 (by decide) (fun _ => ?_) (fun c46 => absurd c46 (by decide))
                    refine lv_iconst (v := 0) hx hb d_M_isData_89 (by decide) ?_
                    exact z_zretR hx hb hr hlocks d_M_isData_90 rfl (by first | (exfalso; omega) | (rw [r10, hL, hR]; simp [oB, hq39, hq45, nc28, nc30, nc32, nc34]) | (rw [r10, hL, hR]; simp [oB, hq39, hq45, nc28, nc30, nc32, nc34]; omega))
                  | true =>
                    rw [hq45, if_pos rfl] at hv43
                    subst hv43
                    refine lv_if_eq (tgt := 89) hx hb d_M_isData_82 (by decide) (fun c47 => absurd c47 (by decide)) (fun _ => ?_)
                    refine lv_iconst (v := 1) hx hb d_M_isData_85 (by decide) ?_
                    refine lv_goto (tgt := 90) hx hb d_M_isData_86 (by decide) ?_
                    exact z_zretR hx hb hr hlocks d_M_isData_90 rfl (by first | (exfalso; omega) | (rw [r10, hL, hR]; simp [oB, hq39, hq45, nc28, nc30, nc32, nc34]) | (rw [r10, hL, hR]; simp [oB, hq39, hq45, nc28, nc30, nc32, nc34]; omega))
              · have nc34 : (tW (tb t)) = 17 := (nI_eq (a := (tW (tb t))) (b := 17) (by omega) (by omega)).mp c34
                refine lv_iconst (v := 1) hx hb d_M_isData_31 (by decide) ?_
                refine lv_goto (tgt := 36) hx hb d_M_isData_32 (by decide) ?_
                refine lv_istore_n (lv' := [(3, .int 1), (2, .int (nI (tW (tb t)))), (0, .ref (mm 0)), (1, .int (nI t))]) hx hb d_M_isData_36 rfl hl (by decide) rfl (fun ls hl => ?_)
                refine lv_iload_n hx hb d_M_isData_37 rfl (lv_at hl 0 rfl) ?_
                refine lv_if_ne (tgt := 89) hx hb d_M_isData_38 (by decide) (fun _ => ?_) (fun c48 => absurd c48 (by decide))
                refine lv_iconst (v := 0) hx hb d_M_isData_89 (by decide) ?_
                exact z_zretR hx hb hr hlocks d_M_isData_90 rfl (by first | (exfalso; omega) | (rw [r10, hL, hR]; simp [oB, nc28, nc30, nc32, nc34]) | (rw [r10, hL, hR]; simp [oB, nc28, nc30, nc32, nc34]; omega))
abbrev b_M_isStorable : ByteArray := prog_12_method_6_code
abbrev y_M_isStorable : MethodName := ⟨"ValueTreesModel", "isStorable", "(I)Z"⟩
abbrev w_M_isStorable : List Cond := .code y_M_isStorable b_M_isStorable 3 (Option.some .boolean) :: gt
theorem hd_M_isStorable : (y_M_isStorable).cls ≠ "java/lang/invoke/MethodHandle" ∧ (y_M_isStorable).cls ≠ "java/lang/invoke/VarHandle" ∧ (parseMethodDescriptor (y_M_isStorable).desc).map (fun d => d.parameters.length) = some 1 := by decide +kernel
theorem d_M_isStorable_0 : decode b_M_isStorable 0 = .ok (.aload_n 0, 1) := by decide +kernel
theorem d_M_isStorable_1 : decode b_M_isStorable 1 = .ok (.getfield 7, 3) := by decide +kernel
theorem d_M_isStorable_4 : decode b_M_isStorable 4 = .ok (.iload_n 1, 1) := by decide +kernel
theorem d_M_isStorable_5 : decode b_M_isStorable 5 = .ok (.iaload, 1) := by decide +kernel
theorem d_M_isStorable_6 : decode b_M_isStorable 6 = .ok (.istore_n 2, 1) := by decide +kernel
theorem d_M_isStorable_7 : decode b_M_isStorable 7 = .ok (.aload_n 0, 1) := by decide +kernel
theorem d_M_isStorable_8 : decode b_M_isStorable 8 = .ok (.iload_n 1, 1) := by decide +kernel
theorem d_M_isStorable_9 : decode b_M_isStorable 9 = .ok (.invokevirtual 50, 3) := by decide +kernel
theorem d_M_isStorable_12 : decode b_M_isStorable 12 = .ok (.ifCond .ne 54, 3) := by decide +kernel
theorem d_M_isStorable_15 : decode b_M_isStorable 15 = .ok (.iload_n 2, 1) := by decide +kernel
theorem d_M_isStorable_16 : decode b_M_isStorable 16 = .ok (.bipush 16, 2) := by decide +kernel
theorem d_M_isStorable_18 : decode b_M_isStorable 18 = .ok (.if_icmp .ne 16, 3) := by decide +kernel
theorem d_M_isStorable_21 : decode b_M_isStorable 21 = .ok (.aload_n 0, 1) := by decide +kernel
theorem d_M_isStorable_22 : decode b_M_isStorable 22 = .ok (.aload_n 0, 1) := by decide +kernel
theorem d_M_isStorable_23 : decode b_M_isStorable 23 = .ok (.getfield 16, 3) := by decide +kernel
theorem d_M_isStorable_26 : decode b_M_isStorable 26 = .ok (.iload_n 1, 1) := by decide +kernel
theorem d_M_isStorable_27 : decode b_M_isStorable 27 = .ok (.iaload, 1) := by decide +kernel
theorem d_M_isStorable_28 : decode b_M_isStorable 28 = .ok (.invokevirtual 50, 3) := by decide +kernel
theorem d_M_isStorable_31 : decode b_M_isStorable 31 = .ok (.ifCond .ne 35, 3) := by decide +kernel
theorem d_M_isStorable_34 : decode b_M_isStorable 34 = .ok (.iload_n 2, 1) := by decide +kernel
theorem d_M_isStorable_35 : decode b_M_isStorable 35 = .ok (.bipush 18, 2) := by decide +kernel
theorem d_M_isStorable_37 : decode b_M_isStorable 37 = .ok (.if_icmp .ne 33, 3) := by decide +kernel
theorem d_M_isStorable_40 : decode b_M_isStorable 40 = .ok (.aload_n 0, 1) := by decide +kernel
theorem d_M_isStorable_41 : decode b_M_isStorable 41 = .ok (.aload_n 0, 1) := by decide +kernel
theorem d_M_isStorable_42 : decode b_M_isStorable 42 = .ok (.getfield 13, 3) := by decide +kernel
theorem d_M_isStorable_45 : decode b_M_isStorable 45 = .ok (.iload_n 1, 1) := by decide +kernel
theorem d_M_isStorable_46 : decode b_M_isStorable 46 = .ok (.iaload, 1) := by decide +kernel
theorem d_M_isStorable_47 : decode b_M_isStorable 47 = .ok (.invokevirtual 53, 3) := by decide +kernel
theorem d_M_isStorable_50 : decode b_M_isStorable 50 = .ok (.ifCond .eq 20, 3) := by decide +kernel
theorem d_M_isStorable_53 : decode b_M_isStorable 53 = .ok (.aload_n 0, 1) := by decide +kernel
theorem d_M_isStorable_54 : decode b_M_isStorable 54 = .ok (.aload_n 0, 1) := by decide +kernel
theorem d_M_isStorable_55 : decode b_M_isStorable 55 = .ok (.getfield 16, 3) := by decide +kernel
theorem d_M_isStorable_58 : decode b_M_isStorable 58 = .ok (.iload_n 1, 1) := by decide +kernel
theorem d_M_isStorable_59 : decode b_M_isStorable 59 = .ok (.iaload, 1) := by decide +kernel
theorem d_M_isStorable_60 : decode b_M_isStorable 60 = .ok (.invokevirtual 53, 3) := by decide +kernel
theorem d_M_isStorable_63 : decode b_M_isStorable 63 = .ok (.ifCond .eq 7, 3) := by decide +kernel
theorem d_M_isStorable_66 : decode b_M_isStorable 66 = .ok (.iconst 1, 1) := by decide +kernel
theorem d_M_isStorable_67 : decode b_M_isStorable 67 = .ok (.goto 4, 3) := by decide +kernel
theorem d_M_isStorable_70 : decode b_M_isStorable 70 = .ok (.iconst 0, 1) := by decide +kernel
theorem d_M_isStorable_71 : decode b_M_isStorable 71 = .ok (.ireturn, 1) := by decide +kernel
set_option maxHeartbeats 4000000 in
set_option maxRecDepth 100000 in
theorem c_M_isStorable (l : Launch) (D : va_G) (dT : Nat → ClassId) (H : Heap) (mm : Nat → Nat) (wd lf rt : Nat → Int32) (tc : Nat) (ty : Nat → Int32) (F : Nat → Nat) (sz : Nat → Int32) (Wk : Nat → Nat) (wz : Nat) (dg : Nat → Nat) (dc : Nat) (sh : Nat → Nat) (hM : mAt D dT mm wd lf rt tc ty F sz Wk wz dg dc sh H) (tb : Nat → TR) (hO : tOK tb tc) (hT : mT tb tc wd lf rt) : ∀ (d : Nat) (t : Nat), t < tc → tP (tb t) ≤ d → Met l y_M_isStorable w_M_isStorable ({ frames := d + 1, cells := 0, slots := 0, locals := 23 * d + 23 }) (z_P D dT [.ref (mm 0), .int (nI t)] H) (z_R (fun v => v = .int (if tS (tb t) = true then 1 else 0))) 0 0 (fun _ => False) := by
  intro d
  induction d with
  | zero =>
    intro t htl hd
    obtain ⟨r1, r2, r2b, r3, r4, r5, r6, r7, r8, r9, r10, r11, r12⟩ := hO.2.2 t htl
    omega
  | succ d ih =>
    intro t htl hd
    refine Met.ofW (cc := b_M_isStorable) (maxL := 3) (ret := (Option.some .boolean)) (by decide) rfl ?_
    intro p e s m args below meth c s₁ B hml hv
    obtain ⟨rfl, rfl, hK⟩ := hv
    have hx := B.exec
    have hb := B.bytes
    have hr := B.returns
    have hts := atoms_spec (ws := w_M_isStorable) B.pre
    have ht : ∀ w9 ∈ gt, w9.before [.ref (mm 0), .int (nI t)].toArray s = true := fun w9 h => hts w9 (List.mem_cons_of_mem _ h)
    have hown : s.vm.findClass "ValueTreesModel" = some m.cls := findClass_of_methodNamed B.named
    have hlocks := B.notSynchronized
    have hl := lv_entry ([.ref (mm 0), .int (nI t)]) (n := 3) (Nat.le_of_ble_eq_true rfl)
    rw [lg_entry_eq]
    generalize (lg_sl ([.ref (mm 0), .int (nI t)]) ++ List.replicate (3 - (lg_sl ([.ref (mm 0), .int (nI t)])).length) Slot.unset).toArray = ls at hl ⊢
    have hl : lv_has ls 3 [(0, .ref (mm 0)), (1, .int (nI t))] := hl
    obtain ⟨e1, e2, e3⟩ := hT t htl
    obtain ⟨r1, r2, r2b, r3, r4, r5, r6, r7, r8, r9, r10, r11, r12⟩ := hO.2.2 t htl
    have htc := hO.1
    cases hL : tL (tb t) with
    | none =>
      rw [hL] at e2
      have e2 : lf t = -1 := e2
      have wL : tW (tb t) < 10 := r3.mp hL
      cases hR : tR (tb t) with
      | none =>
        rw [hR] at e3
        have e3 : rt t = -1 := e3
        have wR : tW (tb t) < 14 := r4.mp hR
        refine lv_aload_n hx hb d_M_isStorable_0 rfl (lv_at hl 0 rfl) ?_
        refine va_get (D := D) (ci := 10) (v := .ref (mm 1)) (C := "ValueTreesModel") (T := T_M) (N := 12) hx hb ht in_M hown hK.1 hM.1 0 rfl rfl 0 (by decide) (ht _ q539) (fun _ h9 => h9) rfl d_M_isStorable_1 ?_
        refine lv_iload_n hx hb d_M_isStorable_4 rfl (lv_at hl 1 rfl) ?_
        refine z_iald hx hb hK (hM.1 1 _ rfl) t rfl (by omega) (by decide) d_M_isStorable_5 ?_
        rw [e1]
        refine lv_istore_n (lv' := [(2, .int (nI (tW (tb t)))), (0, .ref (mm 0)), (1, .int (nI t))]) hx hb d_M_isStorable_6 rfl hl (by decide) rfl (fun ls hl => ?_)
        refine lv_aload_n hx hb d_M_isStorable_7 rfl (lv_at hl 1 rfl) ?_
        refine lv_iload_n hx hb d_M_isStorable_8 rfl (lv_at hl 2 rfl) ?_
        refine z_callR (va_runV (C := "ValueTreesModel") (As := [.int (nI t)]) (rest := []) ⟨hx, hb, hml, hown, hts⟩ (c_M_isData l D dT s.heap mm wd lf rt tc ty F sz Wk wz dg dc sh hM tb hO hT (d + 1) t (by omega) hd) ⟨callB_of 1 hts (gI gd_up gd_c q608) rfl rfl rfl (ht _ q10) (ht _ q605) hd_M_isData ⟨by show d + 1 + 1 ≤ d + 1 + 1; omega, by show 8 + (4 + 11) + 23 * (d + 1) ≤ 23 * (d + 1) + 23; omega⟩, ht _ q607, ht _ qs18⟩ (z_preV hK (va_recv hK.1 hM.1 (ci := 10) (q0 := 0) rfl rfl)) rfl rfl hl.1 rfl (lv_room (Nat.le_of_ble_eq_true rfl)) d_M_isStorable_9 ⟨Nat.zero_le _, Nat.zero_le _⟩) (fun v2 hv1 => ?_)
        have hv1 : v2 = .int (if tD (tb t) = true then 1 else 0) := hv1
        cases hq3 : tD (tb t) with
        | false =>
          rw [hq3, if_neg (by decide)] at hv1
          subst hv1
          refine lv_if_ne (tgt := 66) hx hb d_M_isStorable_12 (by decide) (fun c4 => absurd c4 (by decide)) (fun _ => ?_)
          refine lv_iload_n hx hb d_M_isStorable_15 rfl (lv_at hl 0 rfl) ?_
          refine lv_bipush (v := 16) hx hb d_M_isStorable_16 (by decide) ?_
          refine lv_icmp_ne (tgt := 34) hx hb d_M_isStorable_18 (by decide) (fun c5 => ?_) (fun c5 => ?_)
          · have nc5 : ¬ (tW (tb t)) = 16 := fun h9 => c5 ((nI_eq (a := (tW (tb t))) (b := 16) (by omega) (by omega)).mpr h9)
            refine lv_iload_n hx hb d_M_isStorable_34 rfl (lv_at hl 0 rfl) ?_
            refine lv_bipush (v := 18) hx hb d_M_isStorable_35 (by decide) ?_
            refine lv_icmp_ne (tgt := 70) hx hb d_M_isStorable_37 (by decide) (fun c6 => ?_) (fun c6 => ?_)
            · have nc6 : ¬ (tW (tb t)) = 18 := fun h9 => c6 ((nI_eq (a := (tW (tb t))) (b := 18) (by omega) (by omega)).mpr h9)
              refine lv_iconst (v := 0) hx hb d_M_isStorable_70 (by decide) ?_
              exact z_zretR hx hb hr hlocks d_M_isStorable_71 rfl (by first | (exfalso; omega) | (rw [r11, hL, hR]; simp [oB, hq3, nc5, nc6]) | (rw [r11, hL, hR]; simp [oB, hq3, nc5, nc6]; omega))
            · have nc6 : (tW (tb t)) = 18 := (nI_eq (a := (tW (tb t))) (b := 18) (by omega) (by omega)).mp c6
              exact absurd wL (by omega)
          · have nc5 : (tW (tb t)) = 16 := (nI_eq (a := (tW (tb t))) (b := 16) (by omega) (by omega)).mp c5
            exact absurd wR (by omega)
        | true =>
          rw [hq3, if_pos rfl] at hv1
          subst hv1
          refine lv_if_ne (tgt := 66) hx hb d_M_isStorable_12 (by decide) (fun _ => ?_) (fun c7 => absurd c7 (by decide))
          refine lv_iconst (v := 1) hx hb d_M_isStorable_66 (by decide) ?_
          refine lv_goto (tgt := 71) hx hb d_M_isStorable_67 (by decide) ?_
          exact z_zretR hx hb hr hlocks d_M_isStorable_71 rfl (by first | (exfalso; omega) | (rw [r11, hL, hR]; simp [oB, hq3]) | (rw [r11, hL, hR]; simp [oB, hq3]; omega))
      | some kr =>
        rw [hR] at e3
        have e3 : rt t = nI kr := e3
        have hkr : kr < t := r6 kr hR
        have wR : ¬ tW (tb t) < 14 := fun h9 => by have h8 := r4.mpr h9; rw [hR] at h8; cases h8
        exact absurd wL (by omega)
    | some kl =>
      rw [hL] at e2
      have e2 : lf t = nI kl := e2
      have hkl : kl < t := r5 kl hL
      have wL : ¬ tW (tb t) < 10 := fun h9 => by have h8 := r3.mpr h9; rw [hL] at h8; cases h8
      cases hR : tR (tb t) with
      | none =>
        rw [hR] at e3
        have e3 : rt t = -1 := e3
        have wR : tW (tb t) < 14 := r4.mp hR
        refine lv_aload_n hx hb d_M_isStorable_0 rfl (lv_at hl 0 rfl) ?_
        refine va_get (D := D) (ci := 10) (v := .ref (mm 1)) (C := "ValueTreesModel") (T := T_M) (N := 12) hx hb ht in_M hown hK.1 hM.1 0 rfl rfl 0 (by decide) (ht _ q539) (fun _ h9 => h9) rfl d_M_isStorable_1 ?_
        refine lv_iload_n hx hb d_M_isStorable_4 rfl (lv_at hl 1 rfl) ?_
        refine z_iald hx hb hK (hM.1 1 _ rfl) t rfl (by omega) (by decide) d_M_isStorable_5 ?_
        rw [e1]
        refine lv_istore_n (lv' := [(2, .int (nI (tW (tb t)))), (0, .ref (mm 0)), (1, .int (nI t))]) hx hb d_M_isStorable_6 rfl hl (by decide) rfl (fun ls hl => ?_)
        refine lv_aload_n hx hb d_M_isStorable_7 rfl (lv_at hl 1 rfl) ?_
        refine lv_iload_n hx hb d_M_isStorable_8 rfl (lv_at hl 2 rfl) ?_
        refine z_callR (va_runV (C := "ValueTreesModel") (As := [.int (nI t)]) (rest := []) ⟨hx, hb, hml, hown, hts⟩ (c_M_isData l D dT s.heap mm wd lf rt tc ty F sz Wk wz dg dc sh hM tb hO hT (d + 1) t (by omega) hd) ⟨callB_of 1 hts (gI gd_up gd_c q608) rfl rfl rfl (ht _ q10) (ht _ q605) hd_M_isData ⟨by show d + 1 + 1 ≤ d + 1 + 1; omega, by show 8 + (4 + 11) + 23 * (d + 1) ≤ 23 * (d + 1) + 23; omega⟩, ht _ q607, ht _ qs18⟩ (z_preV hK (va_recv hK.1 hM.1 (ci := 10) (q0 := 0) rfl rfl)) rfl rfl hl.1 rfl (lv_room (Nat.le_of_ble_eq_true rfl)) d_M_isStorable_9 ⟨Nat.zero_le _, Nat.zero_le _⟩) (fun v9 hv8 => ?_)
        have hv8 : v9 = .int (if tD (tb t) = true then 1 else 0) := hv8
        cases hq10 : tD (tb t) with
        | false =>
          rw [hq10, if_neg (by decide)] at hv8
          subst hv8
          refine lv_if_ne (tgt := 66) hx hb d_M_isStorable_12 (by decide) (fun c11 => absurd c11 (by decide)) (fun _ => ?_)
          refine lv_iload_n hx hb d_M_isStorable_15 rfl (lv_at hl 0 rfl) ?_
          refine lv_bipush (v := 16) hx hb d_M_isStorable_16 (by decide) ?_
          refine lv_icmp_ne (tgt := 34) hx hb d_M_isStorable_18 (by decide) (fun c12 => ?_) (fun c12 => ?_)
          · have nc12 : ¬ (tW (tb t)) = 16 := fun h9 => c12 ((nI_eq (a := (tW (tb t))) (b := 16) (by omega) (by omega)).mpr h9)
            refine lv_iload_n hx hb d_M_isStorable_34 rfl (lv_at hl 0 rfl) ?_
            refine lv_bipush (v := 18) hx hb d_M_isStorable_35 (by decide) ?_
            refine lv_icmp_ne (tgt := 70) hx hb d_M_isStorable_37 (by decide) (fun c13 => ?_) (fun c13 => ?_)
            · have nc13 : ¬ (tW (tb t)) = 18 := fun h9 => c13 ((nI_eq (a := (tW (tb t))) (b := 18) (by omega) (by omega)).mpr h9)
              refine lv_iconst (v := 0) hx hb d_M_isStorable_70 (by decide) ?_
              exact z_zretR hx hb hr hlocks d_M_isStorable_71 rfl (by first | (exfalso; omega) | (rw [r11, hL, hR]; simp [oB, hq10, nc12, nc13]) | (rw [r11, hL, hR]; simp [oB, hq10, nc12, nc13]; omega))
            · have nc13 : (tW (tb t)) = 18 := (nI_eq (a := (tW (tb t))) (b := 18) (by omega) (by omega)).mp c13
              refine lv_aload_n hx hb d_M_isStorable_40 rfl (lv_at hl 1 rfl) ?_
              refine lv_aload_n hx hb d_M_isStorable_41 rfl (lv_at hl 1 rfl) ?_
              refine va_get (D := D) (ci := 10) (v := .ref (mm 2)) (C := "ValueTreesModel") (T := T_M) (N := 12) hx hb ht in_M hown hK.1 hM.1 0 rfl rfl 1 (by decide) (ht _ q540) (fun _ h9 => h9) rfl d_M_isStorable_42 ?_
              refine lv_iload_n hx hb d_M_isStorable_45 rfl (lv_at hl 2 rfl) ?_
              refine z_iald hx hb hK (hM.1 2 _ rfl) t rfl (by omega) (by decide) d_M_isStorable_46 ?_
              rw [e2]
              refine z_callR (va_runV (C := "ValueTreesModel") (As := [.int (nI kl)]) (rest := []) ⟨hx, hb, hml, hown, hts⟩ (ih kl (by omega) (by have := r7; rw [hL, hR] at this; simp only [oP] at this; omega)) ⟨callB_of 1 hts (gI gd_up gd_c q612) rfl rfl rfl (ht _ q10) (ht _ q609) hd_M_isStorable ⟨Nat.le_refl _, by show 8 + (3 + 11) + (23 * d + 23) ≤ 23 * (d + 1) + 23; omega⟩, ht _ q611, ht _ qs19⟩ (z_preV hK (va_recv hK.1 hM.1 (ci := 10) (q0 := 0) rfl rfl)) rfl rfl hl.1 rfl (lv_room (Nat.le_of_ble_eq_true rfl)) d_M_isStorable_47 ⟨Nat.zero_le _, Nat.zero_le _⟩) (fun v15 hv14 => ?_)
              have hv14 : v15 = .int (if tS (tb kl) = true then 1 else 0) := hv14
              cases hq16 : tS (tb kl) with
              | false =>
                rw [hq16, if_neg (by decide)] at hv14
                subst hv14
                refine lv_if_eq (tgt := 70) hx hb d_M_isStorable_50 (by decide) (fun _ => ?_) (fun c17 => absurd c17 (by decide))
                refine lv_iconst (v := 0) hx hb d_M_isStorable_70 (by decide) ?_
                exact z_zretR hx hb hr hlocks d_M_isStorable_71 rfl (by first | (exfalso; omega) | (rw [r11, hL, hR]; simp [oB, hq10, hq16, nc12, nc13]) | (rw [r11, hL, hR]; simp [oB, hq10, hq16, nc12, nc13]; omega))
              | true =>
                rw [hq16, if_pos rfl] at hv14
                subst hv14
                refine lv_if_eq (tgt := 70) hx hb d_M_isStorable_50 (by decide) (fun c18 => absurd c18 (by decide)) (fun _ => ?_)
                exact absurd wR (by omega)
          · have nc12 : (tW (tb t)) = 16 := (nI_eq (a := (tW (tb t))) (b := 16) (by omega) (by omega)).mp c12
            exact absurd wR (by omega)
        | true =>
          rw [hq10, if_pos rfl] at hv8
          subst hv8
          refine lv_if_ne (tgt := 66) hx hb d_M_isStorable_12 (by decide) (fun _ => ?_) (fun c19 => absurd c19 (by decide))
          refine lv_iconst (v := 1) hx hb d_M_isStorable_66 (by decide) ?_
          refine lv_goto (tgt := 71) hx hb d_M_isStorable_67 (by decide) ?_
          exact z_zretR hx hb hr hlocks d_M_isStorable_71 rfl (by first | (exfalso; omega) | (rw [r11, hL, hR]; simp [oB, hq10]) | (rw [r11, hL, hR]; simp [oB, hq10]; omega))
      | some kr =>
        rw [hR] at e3
        have e3 : rt t = nI kr := e3
        have hkr : kr < t := r6 kr hR
        have wR : ¬ tW (tb t) < 14 := fun h9 => by have h8 := r4.mpr h9; rw [hR] at h8; cases h8
        refine lv_aload_n hx hb d_M_isStorable_0 rfl (lv_at hl 0 rfl) ?_
        refine va_get (D := D) (ci := 10) (v := .ref (mm 1)) (C := "ValueTreesModel") (T := T_M) (N := 12) hx hb ht in_M hown hK.1 hM.1 0 rfl rfl 0 (by decide) (ht _ q539) (fun _ h9 => h9) rfl d_M_isStorable_1 ?_
        refine lv_iload_n hx hb d_M_isStorable_4 rfl (lv_at hl 1 rfl) ?_
        refine z_iald hx hb hK (hM.1 1 _ rfl) t rfl (by omega) (by decide) d_M_isStorable_5 ?_
        rw [e1]
        refine lv_istore_n (lv' := [(2, .int (nI (tW (tb t)))), (0, .ref (mm 0)), (1, .int (nI t))]) hx hb d_M_isStorable_6 rfl hl (by decide) rfl (fun ls hl => ?_)
        refine lv_aload_n hx hb d_M_isStorable_7 rfl (lv_at hl 1 rfl) ?_
        refine lv_iload_n hx hb d_M_isStorable_8 rfl (lv_at hl 2 rfl) ?_
        refine z_callR (va_runV (C := "ValueTreesModel") (As := [.int (nI t)]) (rest := []) ⟨hx, hb, hml, hown, hts⟩ (c_M_isData l D dT s.heap mm wd lf rt tc ty F sz Wk wz dg dc sh hM tb hO hT (d + 1) t (by omega) hd) ⟨callB_of 1 hts (gI gd_up gd_c q608) rfl rfl rfl (ht _ q10) (ht _ q605) hd_M_isData ⟨by show d + 1 + 1 ≤ d + 1 + 1; omega, by show 8 + (4 + 11) + 23 * (d + 1) ≤ 23 * (d + 1) + 23; omega⟩, ht _ q607, ht _ qs18⟩ (z_preV hK (va_recv hK.1 hM.1 (ci := 10) (q0 := 0) rfl rfl)) rfl rfl hl.1 rfl (lv_room (Nat.le_of_ble_eq_true rfl)) d_M_isStorable_9 ⟨Nat.zero_le _, Nat.zero_le _⟩) (fun v21 hv20 => ?_)
        have hv20 : v21 = .int (if tD (tb t) = true then 1 else 0) := hv20
        cases hq22 : tD (tb t) with
        | false =>
          rw [hq22, if_neg (by decide)] at hv20
          subst hv20
          refine lv_if_ne (tgt := 66) hx hb d_M_isStorable_12 (by decide) (fun c23 => absurd c23 (by decide)) (fun _ => ?_)
          refine lv_iload_n hx hb d_M_isStorable_15 rfl (lv_at hl 0 rfl) ?_
          refine lv_bipush (v := 16) hx hb d_M_isStorable_16 (by decide) ?_
          refine lv_icmp_ne (tgt := 34) hx hb d_M_isStorable_18 (by decide) (fun c24 => ?_) (fun c24 => ?_)
          · have nc24 : ¬ (tW (tb t)) = 16 := fun h9 => c24 ((nI_eq (a := (tW (tb t))) (b := 16) (by omega) (by omega)).mpr h9)
            refine lv_iload_n hx hb d_M_isStorable_34 rfl (lv_at hl 0 rfl) ?_
            refine lv_bipush (v := 18) hx hb d_M_isStorable_35 (by decide) ?_
            refine lv_icmp_ne (tgt := 70) hx hb d_M_isStorable_37 (by decide) (fun c25 => ?_) (fun c25 => ?_)
            · have nc25 : ¬ (tW (tb t)) = 18 := fun h9 => c25 ((nI_eq (a := (tW (tb t))) (b := 18) (by omega) (by omega)).mpr h9)
              refine lv_iconst (v := 0) hx hb d_M_isStorable_70 (by decide) ?_
              exact z_zretR hx hb hr hlocks d_M_isStorable_71 rfl (by first | (exfalso; omega) | (rw [r11, hL, hR]; simp [oB, hq22, nc24, nc25]) | (rw [r11, hL, hR]; simp [oB, hq22, nc24, nc25]; omega))
            · have nc25 : (tW (tb t)) = 18 := (nI_eq (a := (tW (tb t))) (b := 18) (by omega) (by omega)).mp c25
              refine lv_aload_n hx hb d_M_isStorable_40 rfl (lv_at hl 1 rfl) ?_
              refine lv_aload_n hx hb d_M_isStorable_41 rfl (lv_at hl 1 rfl) ?_
              refine va_get (D := D) (ci := 10) (v := .ref (mm 2)) (C := "ValueTreesModel") (T := T_M) (N := 12) hx hb ht in_M hown hK.1 hM.1 0 rfl rfl 1 (by decide) (ht _ q540) (fun _ h9 => h9) rfl d_M_isStorable_42 ?_
              refine lv_iload_n hx hb d_M_isStorable_45 rfl (lv_at hl 2 rfl) ?_
              refine z_iald hx hb hK (hM.1 2 _ rfl) t rfl (by omega) (by decide) d_M_isStorable_46 ?_
              rw [e2]
              refine z_callR (va_runV (C := "ValueTreesModel") (As := [.int (nI kl)]) (rest := []) ⟨hx, hb, hml, hown, hts⟩ (ih kl (by omega) (by have := r7; rw [hL, hR] at this; simp only [oP] at this; omega)) ⟨callB_of 1 hts (gI gd_up gd_c q612) rfl rfl rfl (ht _ q10) (ht _ q609) hd_M_isStorable ⟨Nat.le_refl _, by show 8 + (3 + 11) + (23 * d + 23) ≤ 23 * (d + 1) + 23; omega⟩, ht _ q611, ht _ qs19⟩ (z_preV hK (va_recv hK.1 hM.1 (ci := 10) (q0 := 0) rfl rfl)) rfl rfl hl.1 rfl (lv_room (Nat.le_of_ble_eq_true rfl)) d_M_isStorable_47 ⟨Nat.zero_le _, Nat.zero_le _⟩) (fun v27 hv26 => ?_)
              have hv26 : v27 = .int (if tS (tb kl) = true then 1 else 0) := hv26
              cases hq28 : tS (tb kl) with
              | false =>
                rw [hq28, if_neg (by decide)] at hv26
                subst hv26
                refine lv_if_eq (tgt := 70) hx hb d_M_isStorable_50 (by decide) (fun _ => ?_) (fun c29 => absurd c29 (by decide))
                refine lv_iconst (v := 0) hx hb d_M_isStorable_70 (by decide) ?_
                exact z_zretR hx hb hr hlocks d_M_isStorable_71 rfl (by first | (exfalso; omega) | (rw [r11, hL, hR]; simp [oB, hq22, hq28, nc24, nc25]) | (rw [r11, hL, hR]; simp [oB, hq22, hq28, nc24, nc25]; omega))
              | true =>
                rw [hq28, if_pos rfl] at hv26
                subst hv26
                refine lv_if_eq (tgt := 70) hx hb d_M_isStorable_50 (by decide) (fun c30 => absurd c30 (by decide)) (fun _ => ?_)
                refine lv_aload_n hx hb d_M_isStorable_53 rfl (lv_at hl 1 rfl) ?_
                refine lv_aload_n hx hb d_M_isStorable_54 rfl (lv_at hl 1 rfl) ?_
                refine va_get (D := D) (ci := 10) (v := .ref (mm 3)) (C := "ValueTreesModel") (T := T_M) (N := 12) hx hb ht in_M hown hK.1 hM.1 0 rfl rfl 2 (by decide) (ht _ q541) (fun _ h9 => h9) rfl d_M_isStorable_55 ?_
                refine lv_iload_n hx hb d_M_isStorable_58 rfl (lv_at hl 2 rfl) ?_
                refine z_iald hx hb hK (hM.1 3 _ rfl) t rfl (by omega) (by decide) d_M_isStorable_59 ?_
                rw [e3]
                refine z_callR (va_runV (C := "ValueTreesModel") (As := [.int (nI kr)]) (rest := []) ⟨hx, hb, hml, hown, hts⟩ (ih kr (by omega) (by have := r7; rw [hL, hR] at this; simp only [oP] at this; omega)) ⟨callB_of 1 hts (gI gd_up gd_c q612) rfl rfl rfl (ht _ q10) (ht _ q609) hd_M_isStorable ⟨Nat.le_refl _, by show 8 + (3 + 11) + (23 * d + 23) ≤ 23 * (d + 1) + 23; omega⟩, ht _ q611, ht _ qs19⟩ (z_preV hK (va_recv hK.1 hM.1 (ci := 10) (q0 := 0) rfl rfl)) rfl rfl hl.1 rfl (lv_room (Nat.le_of_ble_eq_true rfl)) d_M_isStorable_60 ⟨Nat.zero_le _, Nat.zero_le _⟩) (fun v32 hv31 => ?_)
                have hv31 : v32 = .int (if tS (tb kr) = true then 1 else 0) := hv31
                cases hq33 : tS (tb kr) with
                | false =>
                  rw [hq33, if_neg (by decide)] at hv31
                  subst hv31
                  refine lv_if_eq (tgt := 70) hx hb d_M_isStorable_63 (by decide) (fun _ => ?_) (fun c34 => absurd c34 (by decide))
                  refine lv_iconst (v := 0) hx hb d_M_isStorable_70 (by decide) ?_
                  exact z_zretR hx hb hr hlocks d_M_isStorable_71 rfl (by first | (exfalso; omega) | (rw [r11, hL, hR]; simp [oB, hq22, hq28, hq33, nc24, nc25]) | (rw [r11, hL, hR]; simp [oB, hq22, hq28, hq33, nc24, nc25]; omega))
                | true =>
                  rw [hq33, if_pos rfl] at hv31
                  subst hv31
                  refine lv_if_eq (tgt := 70) hx hb d_M_isStorable_63 (by decide) (fun c35 => absurd c35 (by decide)) (fun _ => ?_)
                  refine lv_iconst (v := 1) hx hb d_M_isStorable_66 (by decide) ?_
                  refine lv_goto (tgt := 71) hx hb d_M_isStorable_67 (by decide) ?_
                  exact z_zretR hx hb hr hlocks d_M_isStorable_71 rfl (by first | (exfalso; omega) | (rw [r11, hL, hR]; simp [oB, hq22, hq28, hq33, nc24, nc25]) | (rw [r11, hL, hR]; simp [oB, hq22, hq28, hq33, nc24, nc25]; omega))
          · have nc24 : (tW (tb t)) = 16 := (nI_eq (a := (tW (tb t))) (b := 16) (by omega) (by omega)).mp c24
            refine lv_aload_n hx hb d_M_isStorable_21 rfl (lv_at hl 1 rfl) ?_
            refine lv_aload_n hx hb d_M_isStorable_22 rfl (lv_at hl 1 rfl) ?_
            refine va_get (D := D) (ci := 10) (v := .ref (mm 3)) (C := "ValueTreesModel") (T := T_M) (N := 12) hx hb ht in_M hown hK.1 hM.1 0 rfl rfl 2 (by decide) (ht _ q541) (fun _ h9 => h9) rfl d_M_isStorable_23 ?_
            refine lv_iload_n hx hb d_M_isStorable_26 rfl (lv_at hl 2 rfl) ?_
            refine z_iald hx hb hK (hM.1 3 _ rfl) t rfl (by omega) (by decide) d_M_isStorable_27 ?_
            rw [e3]
            refine z_callR (va_runV (C := "ValueTreesModel") (As := [.int (nI kr)]) (rest := []) ⟨hx, hb, hml, hown, hts⟩ (c_M_isData l D dT s.heap mm wd lf rt tc ty F sz Wk wz dg dc sh hM tb hO hT (d + 1) kr (by omega) (by have := r7; rw [hL, hR] at this; simp only [oP] at this; omega)) ⟨callB_of 1 hts (gI gd_up gd_c q608) rfl rfl rfl (ht _ q10) (ht _ q605) hd_M_isData ⟨by show d + 1 + 1 ≤ d + 1 + 1; omega, by show 8 + (4 + 11) + 23 * (d + 1) ≤ 23 * (d + 1) + 23; omega⟩, ht _ q607, ht _ qs18⟩ (z_preV hK (va_recv hK.1 hM.1 (ci := 10) (q0 := 0) rfl rfl)) rfl rfl hl.1 rfl (lv_room (Nat.le_of_ble_eq_true rfl)) d_M_isStorable_28 ⟨Nat.zero_le _, Nat.zero_le _⟩) (fun v37 hv36 => ?_)
            have hv36 : v37 = .int (if tD (tb kr) = true then 1 else 0) := hv36
            cases hq38 : tD (tb kr) with
            | false =>
              rw [hq38, if_neg (by decide)] at hv36
              subst hv36
              refine lv_if_ne (tgt := 66) hx hb d_M_isStorable_31 (by decide) (fun c39 => absurd c39 (by decide)) (fun _ => ?_)
              refine lv_iload_n hx hb d_M_isStorable_34 rfl (lv_at hl 0 rfl) ?_
              refine lv_bipush (v := 18) hx hb d_M_isStorable_35 (by decide) ?_
              refine lv_icmp_ne (tgt := 70) hx hb d_M_isStorable_37 (by decide) (fun c40 => ?_) (fun c40 => ?_)
              · have nc40 : ¬ (tW (tb t)) = 18 := fun h9 => c40 ((nI_eq (a := (tW (tb t))) (b := 18) (by omega) (by omega)).mpr h9)
                refine lv_iconst (v := 0) hx hb d_M_isStorable_70 (by decide) ?_
                exact z_zretR hx hb hr hlocks d_M_isStorable_71 rfl (by first | (exfalso; omega) | (rw [r11, hL, hR]; simp [oB, hq22, hq38, nc24, nc40]) | (rw [r11, hL, hR]; simp [oB, hq22, hq38, nc24, nc40]; omega))
              · have nc40 : (tW (tb t)) = 18 := (nI_eq (a := (tW (tb t))) (b := 18) (by omega) (by omega)).mp c40
                refine lv_aload_n hx hb d_M_isStorable_40 rfl (lv_at hl 1 rfl) ?_
                refine lv_aload_n hx hb d_M_isStorable_41 rfl (lv_at hl 1 rfl) ?_
                refine va_get (D := D) (ci := 10) (v := .ref (mm 2)) (C := "ValueTreesModel") (T := T_M) (N := 12) hx hb ht in_M hown hK.1 hM.1 0 rfl rfl 1 (by decide) (ht _ q540) (fun _ h9 => h9) rfl d_M_isStorable_42 ?_
                refine lv_iload_n hx hb d_M_isStorable_45 rfl (lv_at hl 2 rfl) ?_
                refine z_iald hx hb hK (hM.1 2 _ rfl) t rfl (by omega) (by decide) d_M_isStorable_46 ?_
                rw [e2]
                refine z_callR (va_runV (C := "ValueTreesModel") (As := [.int (nI kl)]) (rest := []) ⟨hx, hb, hml, hown, hts⟩ (ih kl (by omega) (by have := r7; rw [hL, hR] at this; simp only [oP] at this; omega)) ⟨callB_of 1 hts (gI gd_up gd_c q612) rfl rfl rfl (ht _ q10) (ht _ q609) hd_M_isStorable ⟨Nat.le_refl _, by show 8 + (3 + 11) + (23 * d + 23) ≤ 23 * (d + 1) + 23; omega⟩, ht _ q611, ht _ qs19⟩ (z_preV hK (va_recv hK.1 hM.1 (ci := 10) (q0 := 0) rfl rfl)) rfl rfl hl.1 rfl (lv_room (Nat.le_of_ble_eq_true rfl)) d_M_isStorable_47 ⟨Nat.zero_le _, Nat.zero_le _⟩) (fun v42 hv41 => ?_)
                have hv41 : v42 = .int (if tS (tb kl) = true then 1 else 0) := hv41
                cases hq43 : tS (tb kl) with
                | false =>
                  rw [hq43, if_neg (by decide)] at hv41
                  subst hv41
                  refine lv_if_eq (tgt := 70) hx hb d_M_isStorable_50 (by decide) (fun _ => ?_) (fun c44 => absurd c44 (by decide))
                  refine lv_iconst (v := 0) hx hb d_M_isStorable_70 (by decide) ?_
                  exact z_zretR hx hb hr hlocks d_M_isStorable_71 rfl (by first | (exfalso; omega) | (rw [r11, hL, hR]; simp [oB, hq22, hq38, hq43, nc24, nc40]) | (rw [r11, hL, hR]; simp [oB, hq22, hq38, hq43, nc24, nc40]; omega))
                | true =>
                  rw [hq43, if_pos rfl] at hv41
                  subst hv41
                  refine lv_if_eq (tgt := 70) hx hb d_M_isStorable_50 (by decide) (fun c45 => absurd c45 (by decide)) (fun _ => ?_)
                  refine lv_aload_n hx hb d_M_isStorable_53 rfl (lv_at hl 1 rfl) ?_
                  refine lv_aload_n hx hb d_M_isStorable_54 rfl (lv_at hl 1 rfl) ?_
                  refine va_get (D := D) (ci := 10) (v := .ref (mm 3)) (C := "ValueTreesModel") (T := T_M) (N := 12) hx hb ht in_M hown hK.1 hM.1 0 rfl rfl 2 (by decide) (ht _ q541) (fun _ h9 => h9) rfl d_M_isStorable_55 ?_
                  refine lv_iload_n hx hb d_M_isStorable_58 rfl (lv_at hl 2 rfl) ?_
                  refine z_iald hx hb hK (hM.1 3 _ rfl) t rfl (by omega) (by decide) d_M_isStorable_59 ?_
                  rw [e3]
                  refine z_callR (va_runV (C := "ValueTreesModel") (As := [.int (nI kr)]) (rest := []) ⟨hx, hb, hml, hown, hts⟩ (ih kr (by omega) (by have := r7; rw [hL, hR] at this; simp only [oP] at this; omega)) ⟨callB_of 1 hts (gI gd_up gd_c q612) rfl rfl rfl (ht _ q10) (ht _ q609) hd_M_isStorable ⟨Nat.le_refl _, by show 8 + (3 + 11) + (23 * d + 23) ≤ 23 * (d + 1) + 23; omega⟩, ht _ q611, ht _ qs19⟩ (z_preV hK (va_recv hK.1 hM.1 (ci := 10) (q0 := 0) rfl rfl)) rfl rfl hl.1 rfl (lv_room (Nat.le_of_ble_eq_true rfl)) d_M_isStorable_60 ⟨Nat.zero_le _, Nat.zero_le _⟩) (fun v47 hv46 => ?_)
                  have hv46 : v47 = .int (if tS (tb kr) = true then 1 else 0) := hv46
                  cases hq48 : tS (tb kr) with
                  | false =>
                    rw [hq48, if_neg (by decide)] at hv46
                    subst hv46
                    refine lv_if_eq (tgt := 70) hx hb d_M_isStorable_63 (by decide) (fun _ => ?_) (fun c49 => absurd c49 (by decide))
                    refine lv_iconst (v := 0) hx hb d_M_isStorable_70 (by decide) ?_
                    exact z_zretR hx hb hr hlocks d_M_isStorable_71 rfl (by first | (exfalso; omega) | (rw [r11, hL, hR]; simp [oB, hq22, hq38, hq43, hq48, nc24, nc40]) | (rw [r11, hL, hR]; simp [oB, hq22, hq38, hq43, hq48, nc24, nc40]; omega))
                  | true =>
                    rw [hq48, if_pos rfl] at hv46
                    subst hv46
                    refine lv_if_eq (tgt := 70) hx hb d_M_isStorable_63 (by decide) (fun c50 => absurd c50 (by decide)) (fun _ => ?_)
                    refine lv_iconst (v := 1) hx hb d_M_isStorable_66 (by decide) ?_
                    refine lv_goto (tgt := 71) hx hb d_M_isStorable_67 (by decide) ?_
                    exact z_zretR hx hb hr hlocks d_M_isStorable_71 rfl (by first | (exfalso; omega) | (rw [r11, hL, hR]; simp [oB, hq22, hq38, hq43, hq48, nc24, nc40]) | (rw [r11, hL, hR]; simp [oB, hq22, hq38, hq43, hq48, nc24, nc40]; omega))
            | true =>
              rw [hq38, if_pos rfl] at hv36
              subst hv36
              refine lv_if_ne (tgt := 66) hx hb d_M_isStorable_31 (by decide) (fun _ => ?_) (fun c51 => absurd c51 (by decide))
              refine lv_iconst (v := 1) hx hb d_M_isStorable_66 (by decide) ?_
              refine lv_goto (tgt := 71) hx hb d_M_isStorable_67 (by decide) ?_
              exact z_zretR hx hb hr hlocks d_M_isStorable_71 rfl (by first | (exfalso; omega) | (rw [r11, hL, hR]; simp [oB, hq22, hq38, nc24]) | (rw [r11, hL, hR]; simp [oB, hq22, hq38, nc24]; omega))
        | true =>
          rw [hq22, if_pos rfl] at hv20
          subst hv20
          refine lv_if_ne (tgt := 66) hx hb d_M_isStorable_12 (by decide) (fun _ => ?_) (fun c52 => absurd c52 (by decide))
          refine lv_iconst (v := 1) hx hb d_M_isStorable_66 (by decide) ?_
          refine lv_goto (tgt := 71) hx hb d_M_isStorable_67 (by decide) ?_
          exact z_zretR hx hb hr hlocks d_M_isStorable_71 rfl (by first | (exfalso; omega) | (rw [r11, hL, hR]; simp [oB, hq22]) | (rw [r11, hL, hR]; simp [oB, hq22]; omega))
