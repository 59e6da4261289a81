abbrev b_M_numbers : ByteArray := prog_12_method_64_code
abbrev y_M_numbers : MethodName := ⟨"ValueTreesModel", "numbers", "(II)I"⟩
abbrev w_M_numbers : List Cond := .code y_M_numbers b_M_numbers 8 (Option.some .int) :: gt
theorem hd_M_numbers : (y_M_numbers).cls ≠ "java/lang/invoke/MethodHandle" ∧ (y_M_numbers).cls ≠ "java/lang/invoke/VarHandle" ∧ (parseMethodDescriptor (y_M_numbers).desc).map (fun d => d.parameters.length) = some 2 := by decide +kernel
theorem d_M_numbers_0 : decode b_M_numbers 0 = .ok (.aload_n 0, 1) := by decide +kernel
theorem d_M_numbers_1 : decode b_M_numbers 1 = .ok (.iload_n 1, 1) := by decide +kernel
theorem d_M_numbers_2 : decode b_M_numbers 2 = .ok (.invokevirtual 127, 3) := by decide +kernel
theorem d_M_numbers_5 : decode b_M_numbers 5 = .ok (.istore_n 3, 1) := by decide +kernel
theorem d_M_numbers_6 : decode b_M_numbers 6 = .ok (.aload_n 0, 1) := by decide +kernel
theorem d_M_numbers_7 : decode b_M_numbers 7 = .ok (.getfield 85, 3) := by decide +kernel
theorem d_M_numbers_10 : decode b_M_numbers 10 = .ok (.istore 4, 2) := by decide +kernel
theorem d_M_numbers_12 : decode b_M_numbers 12 = .ok (.iconst 0, 1) := by decide +kernel
theorem d_M_numbers_13 : decode b_M_numbers 13 = .ok (.istore 5, 2) := by decide +kernel
theorem d_M_numbers_15 : decode b_M_numbers 15 = .ok (.iload 5, 2) := by decide +kernel
theorem d_M_numbers_17 : decode b_M_numbers 17 = .ok (.iload 4, 2) := by decide +kernel
theorem d_M_numbers_19 : decode b_M_numbers 19 = .ok (.if_icmp .ge 23, 3) := by decide +kernel
theorem d_M_numbers_22 : decode b_M_numbers 22 = .ok (.aload_n 0, 1) := by decide +kernel
theorem d_M_numbers_23 : decode b_M_numbers 23 = .ok (.getfield 35, 3) := by decide +kernel
theorem d_M_numbers_26 : decode b_M_numbers 26 = .ok (.iload 5, 2) := by decide +kernel
theorem d_M_numbers_28 : decode b_M_numbers 28 = .ok (.aload_n 0, 1) := by decide +kernel
theorem d_M_numbers_29 : decode b_M_numbers 29 = .ok (.getfield 32, 3) := by decide +kernel
theorem d_M_numbers_32 : decode b_M_numbers 32 = .ok (.iload 5, 2) := by decide +kernel
theorem d_M_numbers_34 : decode b_M_numbers 34 = .ok (.iaload, 1) := by decide +kernel
theorem d_M_numbers_35 : decode b_M_numbers 35 = .ok (.iastore, 1) := by decide +kernel
theorem d_M_numbers_36 : decode b_M_numbers 36 = .ok (.iinc 5 1, 3) := by decide +kernel
theorem d_M_numbers_39 : decode b_M_numbers 39 = .ok (.goto (-24), 3) := by decide +kernel
theorem d_M_numbers_42 : decode b_M_numbers 42 = .ok (.aload_n 0, 1) := by decide +kernel
theorem d_M_numbers_43 : decode b_M_numbers 43 = .ok (.iload_n 2, 1) := by decide +kernel
theorem d_M_numbers_44 : decode b_M_numbers 44 = .ok (.invokevirtual 127, 3) := by decide +kernel
theorem d_M_numbers_47 : decode b_M_numbers 47 = .ok (.istore 5, 2) := by decide +kernel
theorem d_M_numbers_49 : decode b_M_numbers 49 = .ok (.iload_n 3, 1) := by decide +kernel
theorem d_M_numbers_50 : decode b_M_numbers 50 = .ok (.iload 5, 2) := by decide +kernel
theorem d_M_numbers_52 : decode b_M_numbers 52 = .ok (.if_icmp .eq 13, 3) := by decide +kernel
theorem d_M_numbers_55 : decode b_M_numbers 55 = .ok (.iload_n 3, 1) := by decide +kernel
theorem d_M_numbers_56 : decode b_M_numbers 56 = .ok (.ifCond .eq 7, 3) := by decide +kernel
theorem d_M_numbers_59 : decode b_M_numbers 59 = .ok (.iconst (-1), 1) := by decide +kernel
theorem d_M_numbers_60 : decode b_M_numbers 60 = .ok (.goto 4, 3) := by decide +kernel
theorem d_M_numbers_63 : decode b_M_numbers 63 = .ok (.iconst 1, 1) := by decide +kernel
theorem d_M_numbers_64 : decode b_M_numbers 64 = .ok (.ireturn, 1) := by decide +kernel
theorem d_M_numbers_65 : decode b_M_numbers 65 = .ok (.aload_n 0, 1) := by decide +kernel
theorem d_M_numbers_66 : decode b_M_numbers 66 = .ok (.iload 4, 2) := by decide +kernel
theorem d_M_numbers_68 : decode b_M_numbers 68 = .ok (.aload_n 0, 1) := by decide +kernel
theorem d_M_numbers_69 : decode b_M_numbers 69 = .ok (.getfield 85, 3) := by decide +kernel
theorem d_M_numbers_72 : decode b_M_numbers 72 = .ok (.invokevirtual 177, 3) := by decide +kernel
theorem d_M_numbers_75 : decode b_M_numbers 75 = .ok (.istore 6, 2) := by decide +kernel
theorem d_M_numbers_77 : decode b_M_numbers 77 = .ok (.iload 4, 2) := by decide +kernel
theorem d_M_numbers_79 : decode b_M_numbers 79 = .ok (.iconst 1, 1) := by decide +kernel
theorem d_M_numbers_80 : decode b_M_numbers 80 = .ok (.isub, 1) := by decide +kernel
theorem d_M_numbers_81 : decode b_M_numbers 81 = .ok (.istore 7, 2) := by decide +kernel
theorem d_M_numbers_83 : decode b_M_numbers 83 = .ok (.iload 7, 2) := by decide +kernel
theorem d_M_numbers_85 : decode b_M_numbers 85 = .ok (.ifCond .lt 34, 3) := by decide +kernel
theorem d_M_numbers_88 : decode b_M_numbers 88 = .ok (.iload 6, 2) := by decide +kernel
theorem d_M_numbers_90 : decode b_M_numbers 90 = .ok (.ifCond .ne 29, 3) := by decide +kernel
theorem d_M_numbers_93 : decode b_M_numbers 93 = .ok (.aload_n 0, 1) := by decide +kernel
theorem d_M_numbers_94 : decode b_M_numbers 94 = .ok (.aload_n 0, 1) := by decide +kernel
theorem d_M_numbers_95 : decode b_M_numbers 95 = .ok (.getfield 35, 3) := by decide +kernel
theorem d_M_numbers_98 : decode b_M_numbers 98 = .ok (.iload 7, 2) := by decide +kernel
theorem d_M_numbers_100 : decode b_M_numbers 100 = .ok (.iaload, 1) := by decide +kernel
theorem d_M_numbers_101 : decode b_M_numbers 101 = .ok (.aload_n 0, 1) := by decide +kernel
theorem d_M_numbers_102 : decode b_M_numbers 102 = .ok (.getfield 32, 3) := by decide +kernel
theorem d_M_numbers_105 : decode b_M_numbers 105 = .ok (.iload 7, 2) := by decide +kernel
theorem d_M_numbers_107 : decode b_M_numbers 107 = .ok (.iaload, 1) := by decide +kernel
theorem d_M_numbers_108 : decode b_M_numbers 108 = .ok (.invokevirtual 177, 3) := by decide +kernel
theorem d_M_numbers_111 : decode b_M_numbers 111 = .ok (.istore 6, 2) := by decide +kernel
theorem d_M_numbers_113 : decode b_M_numbers 113 = .ok (.iinc 7 (-1), 3) := by decide +kernel
theorem d_M_numbers_116 : decode b_M_numbers 116 = .ok (.goto (-33), 3) := by decide +kernel
theorem d_M_numbers_119 : decode b_M_numbers 119 = .ok (.iload_n 3, 1) := by decide +kernel
theorem d_M_numbers_120 : decode b_M_numbers 120 = .ok (.ifCond .eq 9, 3) := by decide +kernel
theorem d_M_numbers_123 : decode b_M_numbers 123 = .ok (.iload 6, 2) := by decide +kernel
theorem d_M_numbers_125 : decode b_M_numbers 125 = .ok (.ineg, 1) := by decide +kernel
theorem d_M_numbers_126 : decode b_M_numbers 126 = .ok (.goto 5, 3) := by decide +kernel
theorem d_M_numbers_129 : decode b_M_numbers 129 = .ok (.iload 6, 2) := by decide +kernel
theorem d_M_numbers_131 : decode b_M_numbers 131 = .ok (.ireturn, 1) := by decide +kernel
set_option maxHeartbeats 4000000 in
set_option maxRecDepth 100000 in
theorem c_M_numbers (l : Launch) (D : va_G) (dT : Nat → ClassId) (H : Heap) (mm : Nat → Nat) (wd lf rt : Nat → Int32) (tc : Nat) (ty : Nat → Int32) (F : Nat → Nat) (sz : Nat → Int32) (Wk : Nat → Nat) (wz : Nat) (dg : Nat → Nat) (dc : Nat) (sh : Nat → Nat) (hM : mAt D dT mm wd lf rt tc ty F sz Wk wz dg dc sh H) (hF : ∀ k, F k < 256) (a b : Nat) (x y : Int) (hx9 : x.natAbs < 2 ^ 1024) (hy9 : y.natAbs < 2 ^ 1024) (hfx : fAt F (a + 1) (nser x)) (hfy : fAt F (b + 1) (nser y)) (hax : a + 1 + (nser x).length ≤ 2560) (hay : b + 1 + (nser y).length ≤ 2560) : Met l y_M_numbers w_M_numbers ({ frames := 2, cells := 0, slots := 0, locals := 50 }) (z_P D dT [.ref (mm 0), .int (nI a), .int (nI b)] H) (z_Q (mA mm) (fun r H1 => r = some (.int (icmp x y)) ∧ ∃ dg' dc' sh', mAt D dT mm wd lf rt tc ty F sz Wk wz dg' dc' sh' H1)) 0 0 (mA mm) := by
  refine Met.ofW (cc := b_M_numbers) (maxL := 8) (ret := (Option.some .int)) (by decide) rfl ?_
  intro p e s m args below meth c s₁ B hml hv
  obtain ⟨rfl, rfl, hK⟩ := hv
  have hx := B.exec
  have hb := B.bytes
  have hr := B.returns
  have hts := atoms_spec (ws := w_M_numbers) B.pre
  have ht : ∀ w9 ∈ gt, w9.before [.ref (mm 0), .int (nI a), .int (nI b)].toArray s = true := fun w9 h => hts w9 (List.mem_cons_of_mem _ h)
  have hown : s.vm.findClass "ValueTreesModel" = some m.cls := findClass_of_methodNamed B.named
  have hlocks := B.notSynchronized
  have hS : va_S (mA mm) s.heap s.heap [] := va_S.rf
  have hl := lv_entry ([.ref (mm 0), .int (nI a), .int (nI b)]) (n := 8) (Nat.le_of_ble_eq_true rfl)
  rw [lg_entry_eq]
  generalize (lg_sl ([.ref (mm 0), .int (nI a), .int (nI b)]) ++ List.replicate (8 - (lg_sl ([.ref (mm 0), .int (nI a), .int (nI b)])).length) Slot.unset).toArray = ls at hl ⊢
  have hl : lv_has ls 8 [(0, .ref (mm 0)), (1, .int (nI a)), (2, .int (nI b))] := hl
  refine lv_aload_n hx hb d_M_numbers_0 rfl (lv_at hl 0 rfl) ?_
  refine lv_iload_n hx hb d_M_numbers_1 rfl (lv_at hl 1 rfl) ?_
  refine z_callQ (va_runV (C := "ValueTreesModel") (As := [.int (nI a)]) (rest := []) ⟨hx, hb, hml, hown, hts⟩ (c_M_load l D dT _ mm wd lf rt tc ty F sz Wk wz dg dc sh hM hF a x hx9 hfx hax) ⟨callB_of 1 hts (gI gd_up gd_c q666) rfl rfl rfl (ht _ q10) (ht _ q663) hd_M_load ⟨Nat.le_of_ble_eq_true rfl, Nat.le_of_ble_eq_true rfl⟩, ht _ q665, ht _ qs28⟩ (z_preV hK (va_recv hK.1 hM.1 (ci := 10) (q0 := 0) rfl rfl)) rfl rfl hl.1 rfl (lv_room (Nat.le_of_ble_eq_true rfl)) d_M_numbers_2 ⟨Nat.le_refl _, Nat.le_refl _⟩) hS (fun _ h9 => h9) (fun v2 H locs hv1 hz3 hf4 hS => ?_)
  obtain ⟨rfl, dg, dc, hdx, hdcx, hvx, htrx, hM⟩ := hv1
  refine W.eq (g2 := F0 m 5 ls [.int (if x < 0 then 1 else 0)]) rfl ?_
  rcases Classical.em (x < 0) with hzx | hzx
  · rw [if_pos hzx]
    refine lv_istore_n (lv' := [(3, .int 1), (0, .ref (mm 0)), (1, .int (nI a)), (2, .int (nI b))]) hx hb d_M_numbers_5 rfl hl (by decide) rfl (fun ls hl => ?_)
    refine lv_aload_n hx hb d_M_numbers_6 rfl (lv_at hl 1 rfl) ?_
    refine va_get (D := D) (ci := 10) (v := .int (nI dc)) (C := "ValueTreesModel") (T := T_M) (N := 12) hx hb ht in_M hown hK.1 hM.1 0 rfl rfl 10 (by decide) (ht _ q549) (fun _ h9 => h9) rfl d_M_numbers_7 ?_
    refine lv_istore (lv' := [(4, .int (nI dc)), (3, .int 1), (0, .ref (mm 0)), (1, .int (nI a)), (2, .int (nI b))]) hx hb d_M_numbers_10 hl (by decide) rfl (fun ls hl => ?_)
    refine lv_iconst (v := 0) hx hb d_M_numbers_12 (by decide) ?_
    refine lv_istore (lv' := [(5, .int 0), (4, .int (nI dc)), (3, .int 1), (0, .ref (mm 0)), (1, .int (nI a)), (2, .int (nI b))]) hx hb d_M_numbers_13 hl (by decide) rfl (fun ls hl => ?_)
    have loop5 : ∀ (n159 : Nat) (k : Nat), (k ≤ dc) → dc - k < n159 → ∀ (H : Heap) (locs : List Loc) (sh : Nat → Nat), (∀ q, q < k → sh q = dg q) → mAt D dT mm wd lf rt tc ty F sz Wk wz dg dc sh H → va_S (mA mm) s.heap H locs → ∀ (ls : Array Slot), lv_has ls 8 [(5, .int (nI k)), (4, .int (nI dc)), (3, .int 1), (0, .ref (mm 0)), (1, .int (nI a)), (2, .int (nI b))] → W p l e (headSpec w_M_numbers ({ frames := 2, cells := 0, slots := 0, locals := 50 })).room s m [.ref (mm 0), .int (nI a), .int (nI b)].toArray below meth c H locs 0 0 (MQ below (z_Q (mA mm) (fun r H1 => r = some (.int (icmp x y)) ∧ ∃ dg' dc' sh', mAt D dT mm wd lf rt tc ty F sz Wk wz dg' dc' sh' H1)) [.ref (mm 0), .int (nI a), .int (nI b)].toArray s 0 0 (mA mm)) (F0 m 15 ls []) := by
      intro n159
      induction n159 with
      | zero =>
        intro k hk h159
        exact absurd h159 (Nat.not_lt_zero _)
      | succ n159 ih15 =>
        intro k hk h159 H locs sh hsh hM hS ls hl
        refine lv_iload hx hb d_M_numbers_15 (lv_at hl 0 rfl) ?_
        refine lv_iload hx hb d_M_numbers_17 (lv_at hl 1 rfl) ?_
        refine lv_icmp_ge (tgt := 42) hx hb d_M_numbers_19 (by decide) (fun c6 => ?_) (fun c6 => ?_)
        · have nc6 : dc ≤ k := (nI_leI (a := dc) (b := k) (by omega) (by omega)).mp c6
          have e9 : k = dc := by omega
          subst e9
          have hvs : dval sh k = x.natAbs := by rw [dval_congr hsh, hvx]
          have hds : ∀ q, q < k → sh q < 65536 := fun q hq => by rw [hsh q hq]; exact hdx q hq
          have hts9 : k = 0 ∨ sh (k - 1) ≠ 0 := htrx.elim Or.inl (fun h9 => by rcases Nat.eq_zero_or_pos k with q | q; exact Or.inl q; exact Or.inr (by rw [hsh (k - 1) (by omega)]; exact h9))
          refine lv_aload_n hx hb d_M_numbers_42 rfl (lv_at hl 3 rfl) ?_
          refine lv_iload_n hx hb d_M_numbers_43 rfl (lv_at hl 5 rfl) ?_
          refine z_callQ (va_runV (C := "ValueTreesModel") (As := [.int (nI b)]) (rest := []) ⟨hx, hb, hml, hown, hts⟩ (c_M_load l D dT _ mm wd lf rt tc ty F sz Wk wz dg k sh hM hF b y hy9 hfy hay) ⟨callB_of 1 hts (gI gd_up gd_c q666) rfl rfl rfl (ht _ q10) (ht _ q663) hd_M_load ⟨Nat.le_of_ble_eq_true rfl, Nat.le_of_ble_eq_true rfl⟩, ht _ q665, ht _ qs28⟩ (z_preV hK (va_recv hK.1 hM.1 (ci := 10) (q0 := 0) rfl rfl)) rfl rfl hl.1 rfl (lv_room (Nat.le_of_ble_eq_true rfl)) d_M_numbers_44 ⟨Nat.le_refl _, Nat.le_refl _⟩) hS (fun _ h9 => h9) (fun v8 H locs hv7 hz9 hf10 hS => ?_)
          obtain ⟨rfl, eg, ec, hdy, hdcy, hvy, htry, hM⟩ := hv7
          refine W.eq (g2 := F0 m 47 ls [.int (if y < 0 then 1 else 0)]) rfl ?_
          rcases Classical.em (y < 0) with hzy | hzy
          · rw [if_pos hzy]
            refine lv_istore (lv' := [(5, .int 1), (4, .int (nI k)), (3, .int 1), (0, .ref (mm 0)), (1, .int (nI a)), (2, .int (nI b))]) hx hb d_M_numbers_47 hl (by decide) rfl (fun ls hl => ?_)
            refine lv_iload_n hx hb d_M_numbers_49 rfl (lv_at hl 2 rfl) ?_
            refine lv_iload hx hb d_M_numbers_50 (lv_at hl 0 rfl) ?_
            refine lv_icmp_eq (tgt := 65) hx hb d_M_numbers_52 (by decide) (fun _ => ?_) (fun c11 => absurd c11 (by decide))
            refine lv_aload_n hx hb d_M_numbers_65 rfl (lv_at hl 3 rfl) ?_
            refine lv_iload hx hb d_M_numbers_66 (lv_at hl 1 rfl) ?_
            refine lv_aload_n hx hb d_M_numbers_68 rfl (lv_at hl 3 rfl) ?_
            refine va_get (D := D) (ci := 10) (v := .int (nI ec)) (C := "ValueTreesModel") (T := T_M) (N := 12) hx hb ht in_M hown hK.1 hM.1 0 rfl rfl 10 (by decide) (ht _ q549) (fun _ h9 => h9) rfl d_M_numbers_69 ?_
            refine z_callR (va_runV (C := "ValueTreesModel") (As := [.int (nI k), .int (nI ec)]) (rest := []) ⟨hx, hb, hml, hown, hts⟩ (c_M_sign l D dT _ (mm 0) (nI k) (nI ec)) ⟨callB_of 2 hts (gI gd_up gd_c q747) rfl rfl rfl (ht _ q10) (ht _ q744) hd_M_sign ⟨Nat.le_of_ble_eq_true rfl, Nat.le_of_ble_eq_true rfl⟩, ht _ q746, ht _ qs40⟩ (z_preV hK (va_recv hK.1 hM.1 (ci := 10) (q0 := 0) rfl rfl)) rfl rfl hl.1 rfl (lv_room (Nat.le_of_ble_eq_true rfl)) d_M_numbers_72 ⟨Nat.zero_le _, Nat.zero_le _⟩) (fun v13 hv12 => ?_)
            have hv12 : v13 = .int (sg k ec) := by rw [← sg_nI (by omega) (by omega)]; exact hv12
            subst hv12
            refine lv_istore (lv' := [(6, .int (sg k ec)), (5, .int 1), (4, .int (nI k)), (3, .int 1), (0, .ref (mm 0)), (1, .int (nI a)), (2, .int (nI b))]) hx hb d_M_numbers_75 hl (by decide) rfl (fun ls hl => ?_)
            refine lv_iload hx hb d_M_numbers_77 (lv_at hl 2 rfl) ?_
            refine lv_iconst (v := 1) hx hb d_M_numbers_79 (by decide) ?_
            refine lv_isub hx hb d_M_numbers_80 ?_
            refine lv_istore (lv' := [(7, .int ((nI k) - 1)), (6, .int (sg k ec)), (5, .int 1), (4, .int (nI k)), (3, .int 1), (0, .ref (mm 0)), (1, .int (nI a)), (2, .int (nI b))]) hx hb d_M_numbers_81 hl (by decide) rfl (fun ls hl => ?_)
            have loop14 : ∀ (n839 : Nat) (i : Nat) (c9 : Int32), (i ≤ k) → (cSt sh eg k ec i c9) → i < n839 → ∀ (ls : Array Slot), lv_has ls 8 [(7, .int (nI i - 1)), (6, .int c9), (4, .int (nI k)), (3, .int 1), (0, .ref (mm 0))] → W p l e (headSpec w_M_numbers ({ frames := 2, cells := 0, slots := 0, locals := 50 })).room s m [.ref (mm 0), .int (nI a), .int (nI b)].toArray below meth c H locs 0 0 (MQ below (z_Q (mA mm) (fun r H1 => r = some (.int (icmp x y)) ∧ ∃ dg' dc' sh', mAt D dT mm wd lf rt tc ty F sz Wk wz dg' dc' sh' H1)) [.ref (mm 0), .int (nI a), .int (nI b)].toArray s 0 0 (mA mm)) (F0 m 83 ls []) := by
              intro n839
              induction n839 with
              | zero =>
                intro i c9 hi hc h839
                exact absurd h839 (Nat.not_lt_zero _)
              | succ n839 ih83 =>
                intro i c9 hi hc h839  ls hl
                cases i with
                | zero =>
                  rw [show nI 0 - 1 = (-1 : Int32) by decide] at hl
                  refine lv_iload hx hb d_M_numbers_83 (lv_at hl 0 rfl) ?_
                  refine lv_if_lt (tgt := 119) hx hb d_M_numbers_85 (by decide) (fun _ => ?_) (fun c15 => absurd c15 (by decide))
                  refine lv_iload_n hx hb d_M_numbers_119 rfl (lv_at hl 3 rfl) ?_
                  refine lv_if_eq (tgt := 129) hx hb d_M_numbers_120 (by decide) (fun c16 => absurd c16 (by decide)) (fun _ => ?_)
                  refine lv_iload hx hb d_M_numbers_123 (lv_at hl 1 rfl) ?_
                  refine lv_ineg hx hb d_M_numbers_125 ?_
                  refine lv_goto (tgt := 131) hx hb d_M_numbers_126 (by decide) ?_
                  exact z_iretQ hx hb hr hlocks d_M_numbers_131 hS (Nat.le_refl _) (Nat.le_refl _) ⟨(by rw [icmp_neg hzx hzy, ← hvs, ← hvy, ← cSt_e hc (Or.inl rfl)]), eg, ec, sh, hM⟩
                | succ i =>
                  rw [nI_pred] at hl
                  have hdi := hds i (by omega)
                  refine lv_iload hx hb d_M_numbers_83 (lv_at hl 0 rfl) ?_
                  refine lv_if_lt (tgt := 119) hx hb d_M_numbers_85 (by decide) (fun c17 => absurd c17 (nI_pos (by omega))) (fun c17 => ?_)
                  refine lv_iload hx hb d_M_numbers_88 (lv_at hl 1 rfl) ?_
                  refine lv_if_ne (tgt := 119) hx hb d_M_numbers_90 (by decide) (fun c18 => ?_) (fun c18 => ?_)
                  · refine lv_iload_n hx hb d_M_numbers_119 rfl (lv_at hl 3 rfl) ?_
                    refine lv_if_eq (tgt := 129) hx hb d_M_numbers_120 (by decide) (fun c19 => absurd c19 (by decide)) (fun _ => ?_)
                    refine lv_iload hx hb d_M_numbers_123 (lv_at hl 1 rfl) ?_
                    refine lv_ineg hx hb d_M_numbers_125 ?_
                    refine lv_goto (tgt := 131) hx hb d_M_numbers_126 (by decide) ?_
                    exact z_iretQ hx hb hr hlocks d_M_numbers_131 hS (Nat.le_refl _) (Nat.le_refl _) ⟨(by rw [icmp_neg hzx hzy, ← hvs, ← hvy, ← cSt_e hc (Or.inr c18)]), eg, ec, sh, hM⟩
                  · have hke : k = ec := by rcases hc with ⟨-, h9, -⟩ | ⟨h9, -⟩; exact h9; exact absurd c18 h9
                    have hdi2 := hdy i (by omega)
                    refine lv_aload_n hx hb d_M_numbers_93 rfl (lv_at hl 4 rfl) ?_
                    refine lv_aload_n hx hb d_M_numbers_94 rfl (lv_at hl 4 rfl) ?_
                    refine va_get (D := D) (ci := 10) (v := .ref (mm 9)) (C := "ValueTreesModel") (T := T_M) (N := 12) hx hb ht in_M hown hK.1 hM.1 0 rfl rfl 11 (by decide) (ht _ q550) (fun _ h9 => h9) rfl d_M_numbers_95 ?_
                    refine lv_iload hx hb d_M_numbers_98 (lv_at hl 0 rfl) ?_
                    refine z_iald hx hb hK (hM.1 9 _ rfl) i rfl (by omega) (by decide) d_M_numbers_100 ?_
                    refine lv_aload_n hx hb d_M_numbers_101 rfl (lv_at hl 4 rfl) ?_
                    refine va_get (D := D) (ci := 10) (v := .ref (mm 8)) (C := "ValueTreesModel") (T := T_M) (N := 12) hx hb ht in_M hown hK.1 hM.1 0 rfl rfl 9 (by decide) (ht _ q548) (fun _ h9 => h9) rfl d_M_numbers_102 ?_
                    refine lv_iload hx hb d_M_numbers_105 (lv_at hl 0 rfl) ?_
                    refine z_iald hx hb hK (hM.1 8 _ rfl) i rfl (by omega) (by decide) d_M_numbers_107 ?_
                    refine z_callR (va_runV (C := "ValueTreesModel") (As := [.int (nI (sh i)), .int (nI (eg i))]) (rest := []) ⟨hx, hb, hml, hown, hts⟩ (c_M_sign l D dT _ (mm 0) (nI (sh i)) (nI (eg i))) ⟨callB_of 2 hts (gI gd_up gd_c q747) rfl rfl rfl (ht _ q10) (ht _ q744) hd_M_sign ⟨Nat.le_of_ble_eq_true rfl, Nat.le_of_ble_eq_true rfl⟩, ht _ q746, ht _ qs40⟩ (z_preV hK (va_recv hK.1 hM.1 (ci := 10) (q0 := 0) rfl rfl)) rfl rfl hl.1 rfl (lv_room (Nat.le_of_ble_eq_true rfl)) d_M_numbers_108 ⟨Nat.zero_le _, Nat.zero_le _⟩) (fun v21 hv20 => ?_)
                    have hv20 : v21 = .int (sg (sh i) (eg i)) := by rw [← sg_nI (by omega) (by omega)]; exact hv20
                    subst hv20
                    refine lv_istore (lv' := [(6, .int (sg (sh i) (eg i))), (7, .int (nI i)), (4, .int (nI k)), (3, .int 1), (0, .ref (mm 0))]) hx hb d_M_numbers_111 hl (by decide) rfl (fun ls hl => ?_)
                    refine lv_iinc (v := (nI i - 1)) (lv' := [(7, .int (nI i - 1)), (6, .int (sg (sh i) (eg i))), (4, .int (nI k)), (3, .int 1), (0, .ref (mm 0))]) hx hb d_M_numbers_113 hl (k := 1) rfl (by rw [Int32.sub_eq_add_neg]; rfl) (by decide) rfl (fun ls hl => ?_)
                    refine lv_goto (tgt := 83) hx hb d_M_numbers_116 (by decide) ?_
                    exact ih83 i (sg (sh i) (eg i)) (by omega) (cSt_s hds hdy hc c18 (by omega)) (by omega)  ls (lv_sub hl [0, 1, 2, 3, 4] rfl)
            exact loop14 (k + 1) k (sg k ec) (Nat.le_refl _) (cSt_0 hds hdy hts9 htry) (by omega)  ls (lv_sub hl [0, 1, 3, 4, 5] rfl)
          · rw [if_neg hzy]
            refine lv_istore (lv' := [(5, .int 0), (4, .int (nI k)), (3, .int 1), (0, .ref (mm 0)), (1, .int (nI a)), (2, .int (nI b))]) hx hb d_M_numbers_47 hl (by decide) rfl (fun ls hl => ?_)
            refine lv_iload_n hx hb d_M_numbers_49 rfl (lv_at hl 2 rfl) ?_
            refine lv_iload hx hb d_M_numbers_50 (lv_at hl 0 rfl) ?_
            refine lv_icmp_eq (tgt := 65) hx hb d_M_numbers_52 (by decide) (fun c22 => absurd c22 (by decide)) (fun _ => ?_)
            refine lv_iload_n hx hb d_M_numbers_55 rfl (lv_at hl 2 rfl) ?_
            refine lv_if_eq (tgt := 63) hx hb d_M_numbers_56 (by decide) (fun c23 => absurd c23 (by decide)) (fun _ => ?_)
            refine lv_iconst (v := (-1)) hx hb d_M_numbers_59 (by decide) ?_
            refine lv_goto (tgt := 64) hx hb d_M_numbers_60 (by decide) ?_
            exact z_iretQ hx hb hr hlocks d_M_numbers_64 hS (Nat.le_refl _) (Nat.le_refl _) ⟨(by unfold icmp; rw [if_pos (by omega)]), eg, ec, sh, hM⟩
        · have nc6 : ¬ dc ≤ k := fun h9 => c6 ((nI_leI (a := dc) (b := k) (by omega) (by omega)).mpr h9)
          refine lv_aload_n hx hb d_M_numbers_22 rfl (lv_at hl 3 rfl) ?_
          refine va_get (D := D) (ci := 10) (v := .ref (mm 9)) (C := "ValueTreesModel") (T := T_M) (N := 12) hx hb ht in_M hown hK.1 hM.1 0 rfl rfl 11 (by decide) (ht _ q550) (fun _ h9 => h9) rfl d_M_numbers_23 ?_
          refine lv_iload hx hb d_M_numbers_26 (lv_at hl 0 rfl) ?_
          refine lv_aload_n hx hb d_M_numbers_28 rfl (lv_at hl 3 rfl) ?_
          refine va_get (D := D) (ci := 10) (v := .ref (mm 8)) (C := "ValueTreesModel") (T := T_M) (N := 12) hx hb ht in_M hown hK.1 hM.1 0 rfl rfl 9 (by decide) (ht _ q548) (fun _ h9 => h9) rfl d_M_numbers_29 ?_
          refine lv_iload hx hb d_M_numbers_32 (lv_at hl 0 rfl) ?_
          refine z_iald hx hb hK (hM.1 8 _ rfl) k rfl (by omega) (by decide) d_M_numbers_34 ?_
          refine m_ast_sh hx hb hK hM hS k rfl (by omega) (dg k) rfl d_M_numbers_35 (fun H locs hM hS => ?_)
          have hM : mAt D dT mm wd lf rt tc ty F sz Wk wz dg dc (updN sh k (dg k)) H := hM
          refine lv_iinc (v := (nI (k + 1))) (lv' := [(5, .int (nI (k + 1))), (4, .int (nI dc)), (3, .int 1), (0, .ref (mm 0)), (1, .int (nI a)), (2, .int (nI b))]) hx hb d_M_numbers_36 hl (k := 0) rfl (nI_1 k) (by decide) rfl (fun ls hl => ?_)
          refine lv_goto (tgt := 15) hx hb d_M_numbers_39 (by decide) ?_
          exact ih15 (k + 1) (by omega) (by omega) _ _ _ (lt_s (fun q hq => by rw [updN_n (by omega)]; exact hsh q hq) updN_s) hM hS ls (lv_sub hl [0, 1, 2, 3, 4, 5] rfl)
    exact loop5 (dc + 1) 0 (by omega) (by omega) _ _ sh (fun q hq => absurd hq (Nat.not_lt_zero q)) hM hS ls (lv_sub hl [0, 1, 2, 3, 4, 5] rfl)
  · rw [if_neg hzx]
    refine lv_istore_n (lv' := [(3, .int 0), (0, .ref (mm 0)), (1, .int (nI a)), (2, .int (nI b))]) hx hb d_M_numbers_5 rfl hl (by decide) rfl (fun ls hl => ?_)
    refine lv_aload_n hx hb d_M_numbers_6 rfl (lv_at hl 1 rfl) ?_
    refine va_get (D := D) (ci := 10) (v := .int (nI dc)) (C := "ValueTreesModel") (T := T_M) (N := 12) hx hb ht in_M hown hK.1 hM.1 0 rfl rfl 10 (by decide) (ht _ q549) (fun _ h9 => h9) rfl d_M_numbers_7 ?_
    refine lv_istore (lv' := [(4, .int (nI dc)), (3, .int 0), (0, .ref (mm 0)), (1, .int (nI a)), (2, .int (nI b))]) hx hb d_M_numbers_10 hl (by decide) rfl (fun ls hl => ?_)
    refine lv_iconst (v := 0) hx hb d_M_numbers_12 (by decide) ?_
    refine lv_istore (lv' := [(5, .int 0), (4, .int (nI dc)), (3, .int 0), (0, .ref (mm 0)), (1, .int (nI a)), (2, .int (nI b))]) hx hb d_M_numbers_13 hl (by decide) rfl (fun ls hl => ?_)
    have loop24 : ∀ (n159 : Nat) (k : Nat), (k ≤ dc) → dc - k < n159 → ∀ (H : Heap) (locs : List Loc) (sh : Nat → Nat), (∀ q, q < k → sh q = dg q) → mAt D dT mm wd lf rt tc ty F sz Wk wz dg dc sh H → va_S (mA mm) s.heap H locs → ∀ (ls : Array Slot), lv_has ls 8 [(5, .int (nI k)), (4, .int (nI dc)), (3, .int 0), (0, .ref (mm 0)), (1, .int (nI a)), (2, .int (nI b))] → W p l e (headSpec w_M_numbers ({ frames := 2, cells := 0, slots := 0, locals := 50 })).room s m [.ref (mm 0), .int (nI a), .int (nI b)].toArray below meth c H locs 0 0 (MQ below (z_Q (mA mm) (fun r H1 => r = some (.int (icmp x y)) ∧ ∃ dg' dc' sh', mAt D dT mm wd lf rt tc ty F sz Wk wz dg' dc' sh' H1)) [.ref (mm 0), .int (nI a), .int (nI b)].toArray s 0 0 (mA mm)) (F0 m 15 ls []) := by
      intro n159
      induction n159 with
      | zero =>
        intro k hk h159
        exact absurd h159 (Nat.not_lt_zero _)
      | succ n159 ih15 =>
        intro k hk h159 H locs sh hsh hM hS ls hl
        refine lv_iload hx hb d_M_numbers_15 (lv_at hl 0 rfl) ?_
        refine lv_iload hx hb d_M_numbers_17 (lv_at hl 1 rfl) ?_
        refine lv_icmp_ge (tgt := 42) hx hb d_M_numbers_19 (by decide) (fun c25 => ?_) (fun c25 => ?_)
        · have nc25 : dc ≤ k := (nI_leI (a := dc) (b := k) (by omega) (by omega)).mp c25
          have e9 : k = dc := by omega
          subst e9
          have hvs : dval sh k = x.natAbs := by rw [dval_congr hsh, hvx]
          have hds : ∀ q, q < k → sh q < 65536 := fun q hq => by rw [hsh q hq]; exact hdx q hq
          have hts9 : k = 0 ∨ sh (k - 1) ≠ 0 := htrx.elim Or.inl (fun h9 => by rcases Nat.eq_zero_or_pos k with q | q; exact Or.inl q; exact Or.inr (by rw [hsh (k - 1) (by omega)]; exact h9))
          refine lv_aload_n hx hb d_M_numbers_42 rfl (lv_at hl 3 rfl) ?_
          refine lv_iload_n hx hb d_M_numbers_43 rfl (lv_at hl 5 rfl) ?_
          refine z_callQ (va_runV (C := "ValueTreesModel") (As := [.int (nI b)]) (rest := []) ⟨hx, hb, hml, hown, hts⟩ (c_M_load l D dT _ mm wd lf rt tc ty F sz Wk wz dg k sh hM hF b y hy9 hfy hay) ⟨callB_of 1 hts (gI gd_up gd_c q666) rfl rfl rfl (ht _ q10) (ht _ q663) hd_M_load ⟨Nat.le_of_ble_eq_true rfl, Nat.le_of_ble_eq_true rfl⟩, ht _ q665, ht _ qs28⟩ (z_preV hK (va_recv hK.1 hM.1 (ci := 10) (q0 := 0) rfl rfl)) rfl rfl hl.1 rfl (lv_room (Nat.le_of_ble_eq_true rfl)) d_M_numbers_44 ⟨Nat.le_refl _, Nat.le_refl _⟩) hS (fun _ h9 => h9) (fun v27 H locs hv26 hz28 hf29 hS => ?_)
          obtain ⟨rfl, eg, ec, hdy, hdcy, hvy, htry, hM⟩ := hv26
          refine W.eq (g2 := F0 m 47 ls [.int (if y < 0 then 1 else 0)]) rfl ?_
          rcases Classical.em (y < 0) with hzy | hzy
          · rw [if_pos hzy]
            refine lv_istore (lv' := [(5, .int 1), (4, .int (nI k)), (3, .int 0), (0, .ref (mm 0)), (1, .int (nI a)), (2, .int (nI b))]) hx hb d_M_numbers_47 hl (by decide) rfl (fun ls hl => ?_)
            refine lv_iload_n hx hb d_M_numbers_49 rfl (lv_at hl 2 rfl) ?_
            refine lv_iload hx hb d_M_numbers_50 (lv_at hl 0 rfl) ?_
            refine lv_icmp_eq (tgt := 65) hx hb d_M_numbers_52 (by decide) (fun c30 => absurd c30 (by decide)) (fun _ => ?_)
            refine lv_iload_n hx hb d_M_numbers_55 rfl (lv_at hl 2 rfl) ?_
            refine lv_if_eq (tgt := 63) hx hb d_M_numbers_56 (by decide) (fun _ => ?_) (fun c31 => absurd c31 (by decide))
            refine lv_iconst (v := 1) hx hb d_M_numbers_63 (by decide) ?_
            exact z_iretQ hx hb hr hlocks d_M_numbers_64 hS (Nat.le_refl _) (Nat.le_refl _) ⟨(by unfold icmp; rw [if_neg (by omega), if_pos (by omega)]), eg, ec, sh, hM⟩
          · rw [if_neg hzy]
            refine lv_istore (lv' := [(5, .int 0), (4, .int (nI k)), (3, .int 0), (0, .ref (mm 0)), (1, .int (nI a)), (2, .int (nI b))]) hx hb d_M_numbers_47 hl (by decide) rfl (fun ls hl => ?_)
            refine lv_iload_n hx hb d_M_numbers_49 rfl (lv_at hl 2 rfl) ?_
            refine lv_iload hx hb d_M_numbers_50 (lv_at hl 0 rfl) ?_
            refine lv_icmp_eq (tgt := 65) hx hb d_M_numbers_52 (by decide) (fun _ => ?_) (fun c32 => absurd c32 (by decide))
            refine lv_aload_n hx hb d_M_numbers_65 rfl (lv_at hl 3 rfl) ?_
            refine lv_iload hx hb d_M_numbers_66 (lv_at hl 1 rfl) ?_
            refine lv_aload_n hx hb d_M_numbers_68 rfl (lv_at hl 3 rfl) ?_
            refine va_get (D := D) (ci := 10) (v := .int (nI ec)) (C := "ValueTreesModel") (T := T_M) (N := 12) hx hb ht in_M hown hK.1 hM.1 0 rfl rfl 10 (by decide) (ht _ q549) (fun _ h9 => h9) rfl d_M_numbers_69 ?_
            refine z_callR (va_runV (C := "ValueTreesModel") (As := [.int (nI k), .int (nI ec)]) (rest := []) ⟨hx, hb, hml, hown, hts⟩ (c_M_sign l D dT _ (mm 0) (nI k) (nI ec)) ⟨callB_of 2 hts (gI gd_up gd_c q747) rfl rfl rfl (ht _ q10) (ht _ q744) hd_M_sign ⟨Nat.le_of_ble_eq_true rfl, Nat.le_of_ble_eq_true rfl⟩, ht _ q746, ht _ qs40⟩ (z_preV hK (va_recv hK.1 hM.1 (ci := 10) (q0 := 0) rfl rfl)) rfl rfl hl.1 rfl (lv_room (Nat.le_of_ble_eq_true rfl)) d_M_numbers_72 ⟨Nat.zero_le _, Nat.zero_le _⟩) (fun v34 hv33 => ?_)
            have hv33 : v34 = .int (sg k ec) := by rw [← sg_nI (by omega) (by omega)]; exact hv33
            subst hv33
            refine lv_istore (lv' := [(6, .int (sg k ec)), (5, .int 0), (4, .int (nI k)), (3, .int 0), (0, .ref (mm 0)), (1, .int (nI a)), (2, .int (nI b))]) hx hb d_M_numbers_75 hl (by decide) rfl (fun ls hl => ?_)
            refine lv_iload hx hb d_M_numbers_77 (lv_at hl 2 rfl) ?_
            refine lv_iconst (v := 1) hx hb d_M_numbers_79 (by decide) ?_
            refine lv_isub hx hb d_M_numbers_80 ?_
            refine lv_istore (lv' := [(7, .int ((nI k) - 1)), (6, .int (sg k ec)), (5, .int 0), (4, .int (nI k)), (3, .int 0), (0, .ref (mm 0)), (1, .int (nI a)), (2, .int (nI b))]) hx hb d_M_numbers_81 hl (by decide) rfl (fun ls hl => ?_)
            have loop35 : ∀ (n839 : Nat) (i : Nat) (c9 : Int32), (i ≤ k) → (cSt sh eg k ec i c9) → i < n839 → ∀ (ls : Array Slot), lv_has ls 8 [(7, .int (nI i - 1)), (6, .int c9), (4, .int (nI k)), (3, .int 0), (0, .ref (mm 0))] → W p l e (headSpec w_M_numbers ({ frames := 2, cells := 0, slots := 0, locals := 50 })).room s m [.ref (mm 0), .int (nI a), .int (nI b)].toArray below meth c H locs 0 0 (MQ below (z_Q (mA mm) (fun r H1 => r = some (.int (icmp x y)) ∧ ∃ dg' dc' sh', mAt D dT mm wd lf rt tc ty F sz Wk wz dg' dc' sh' H1)) [.ref (mm 0), .int (nI a), .int (nI b)].toArray s 0 0 (mA mm)) (F0 m 83 ls []) := by
              intro n839
              induction n839 with
              | zero =>
                intro i c9 hi hc h839
                exact absurd h839 (Nat.not_lt_zero _)
              | succ n839 ih83 =>
                intro i c9 hi hc h839  ls hl
                cases i with
                | zero =>
                  rw [show nI 0 - 1 = (-1 : Int32) by decide] at hl
                  refine lv_iload hx hb d_M_numbers_83 (lv_at hl 0 rfl) ?_
                  refine lv_if_lt (tgt := 119) hx hb d_M_numbers_85 (by decide) (fun _ => ?_) (fun c36 => absurd c36 (by decide))
                  refine lv_iload_n hx hb d_M_numbers_119 rfl (lv_at hl 3 rfl) ?_
                  refine lv_if_eq (tgt := 129) hx hb d_M_numbers_120 (by decide) (fun _ => ?_) (fun c37 => absurd c37 (by decide))
                  refine lv_iload hx hb d_M_numbers_129 (lv_at hl 1 rfl) ?_
                  exact z_iretQ hx hb hr hlocks d_M_numbers_131 hS (Nat.le_refl _) (Nat.le_refl _) ⟨(by rw [icmp_pos hzx hzy, ← hvs, ← hvy, ← cSt_e hc (Or.inl rfl)]), eg, ec, sh, hM⟩
                | succ i =>
                  rw [nI_pred] at hl
                  have hdi := hds i (by omega)
                  refine lv_iload hx hb d_M_numbers_83 (lv_at hl 0 rfl) ?_
                  refine lv_if_lt (tgt := 119) hx hb d_M_numbers_85 (by decide) (fun c38 => absurd c38 (nI_pos (by omega))) (fun c38 => ?_)
                  refine lv_iload hx hb d_M_numbers_88 (lv_at hl 1 rfl) ?_
                  refine lv_if_ne (tgt := 119) hx hb d_M_numbers_90 (by decide) (fun c39 => ?_) (fun c39 => ?_)
                  · refine lv_iload_n hx hb d_M_numbers_119 rfl (lv_at hl 3 rfl) ?_
                    refine lv_if_eq (tgt := 129) hx hb d_M_numbers_120 (by decide) (fun _ => ?_) (fun c40 => absurd c40 (by decide))
                    refine lv_iload hx hb d_M_numbers_129 (lv_at hl 1 rfl) ?_
                    exact z_iretQ hx hb hr hlocks d_M_numbers_131 hS (Nat.le_refl _) (Nat.le_refl _) ⟨(by rw [icmp_pos hzx hzy, ← hvs, ← hvy, ← cSt_e hc (Or.inr c39)]), eg, ec, sh, hM⟩
                  · have hke : k = ec := by rcases hc with ⟨-, h9, -⟩ | ⟨h9, -⟩; exact h9; exact absurd c39 h9
                    have hdi2 := hdy i (by omega)
                    refine lv_aload_n hx hb d_M_numbers_93 rfl (lv_at hl 4 rfl) ?_
                    refine lv_aload_n hx hb d_M_numbers_94 rfl (lv_at hl 4 rfl) ?_
                    refine va_get (D := D) (ci := 10) (v := .ref (mm 9)) (C := "ValueTreesModel") (T := T_M) (N := 12) hx hb ht in_M hown hK.1 hM.1 0 rfl rfl 11 (by decide) (ht _ q550) (fun _ h9 => h9) rfl d_M_numbers_95 ?_
                    refine lv_iload hx hb d_M_numbers_98 (lv_at hl 0 rfl) ?_
                    refine z_iald hx hb hK (hM.1 9 _ rfl) i rfl (by omega) (by decide) d_M_numbers_100 ?_
                    refine lv_aload_n hx hb d_M_numbers_101 rfl (lv_at hl 4 rfl) ?_
                    refine va_get (D := D) (ci := 10) (v := .ref (mm 8)) (C := "ValueTreesModel") (T := T_M) (N := 12) hx hb ht in_M hown hK.1 hM.1 0 rfl rfl 9 (by decide) (ht _ q548) (fun _ h9 => h9) rfl d_M_numbers_102 ?_
                    refine lv_iload hx hb d_M_numbers_105 (lv_at hl 0 rfl) ?_
                    refine z_iald hx hb hK (hM.1 8 _ rfl) i rfl (by omega) (by decide) d_M_numbers_107 ?_
                    refine z_callR (va_runV (C := "ValueTreesModel") (As := [.int (nI (sh i)), .int (nI (eg i))]) (rest := []) ⟨hx, hb, hml, hown, hts⟩ (c_M_sign l D dT _ (mm 0) (nI (sh i)) (nI (eg i))) ⟨callB_of 2 hts (gI gd_up gd_c q747) rfl rfl rfl (ht _ q10) (ht _ q744) hd_M_sign ⟨Nat.le_of_ble_eq_true rfl, Nat.le_of_ble_eq_true rfl⟩, ht _ q746, ht _ qs40⟩ (z_preV hK (va_recv hK.1 hM.1 (ci := 10) (q0 := 0) rfl rfl)) rfl rfl hl.1 rfl (lv_room (Nat.le_of_ble_eq_true rfl)) d_M_numbers_108 ⟨Nat.zero_le _, Nat.zero_le _⟩) (fun v42 hv41 => ?_)
                    have hv41 : v42 = .int (sg (sh i) (eg i)) := by rw [← sg_nI (by omega) (by omega)]; exact hv41
                    subst hv41
                    refine lv_istore (lv' := [(6, .int (sg (sh i) (eg i))), (7, .int (nI i)), (4, .int (nI k)), (3, .int 0), (0, .ref (mm 0))]) hx hb d_M_numbers_111 hl (by decide) rfl (fun ls hl => ?_)
                    refine lv_iinc (v := (nI i - 1)) (lv' := [(7, .int (nI i - 1)), (6, .int (sg (sh i) (eg i))), (4, .int (nI k)), (3, .int 0), (0, .ref (mm 0))]) hx hb d_M_numbers_113 hl (k := 1) rfl (by rw [Int32.sub_eq_add_neg]; rfl) (by decide) rfl (fun ls hl => ?_)
                    refine lv_goto (tgt := 83) hx hb d_M_numbers_116 (by decide) ?_
                    exact ih83 i (sg (sh i) (eg i)) (by omega) (cSt_s hds hdy hc c39 (by omega)) (by omega)  ls (lv_sub hl [0, 1, 2, 3, 4] rfl)
            exact loop35 (k + 1) k (sg k ec) (Nat.le_refl _) (cSt_0 hds hdy hts9 htry) (by omega)  ls (lv_sub hl [0, 1, 3, 4, 5] rfl)
        · have nc25 : ¬ dc ≤ k := fun h9 => c25 ((nI_leI (a := dc) (b := k) (by omega) (by omega)).mpr h9)
          refine lv_aload_n hx hb d_M_numbers_22 rfl (lv_at hl 3 rfl) ?_
          refine va_get (D := D) (ci := 10) (v := .ref (mm 9)) (C := "ValueTreesModel") (T := T_M) (N := 12) hx hb ht in_M hown hK.1 hM.1 0 rfl rfl 11 (by decide) (ht _ q550) (fun _ h9 => h9) rfl d_M_numbers_23 ?_
          refine lv_iload hx hb d_M_numbers_26 (lv_at hl 0 rfl) ?_
          refine lv_aload_n hx hb d_M_numbers_28 rfl (lv_at hl 3 rfl) ?_
          refine va_get (D := D) (ci := 10) (v := .ref (mm 8)) (C := "ValueTreesModel") (T := T_M) (N := 12) hx hb ht in_M hown hK.1 hM.1 0 rfl rfl 9 (by decide) (ht _ q548) (fun _ h9 => h9) rfl d_M_numbers_29 ?_
          refine lv_iload hx hb d_M_numbers_32 (lv_at hl 0 rfl) ?_
          refine z_iald hx hb hK (hM.1 8 _ rfl) k rfl (by omega) (by decide) d_M_numbers_34 ?_
          refine m_ast_sh hx hb hK hM hS k rfl (by omega) (dg k) rfl d_M_numbers_35 (fun H locs hM hS => ?_)
          have hM : mAt D dT mm wd lf rt tc ty F sz Wk wz dg dc (updN sh k (dg k)) H := hM
          refine lv_iinc (v := (nI (k + 1))) (lv' := [(5, .int (nI (k + 1))), (4, .int (nI dc)), (3, .int 0), (0, .ref (mm 0)), (1, .int (nI a)), (2, .int (nI b))]) hx hb d_M_numbers_36 hl (k := 0) rfl (nI_1 k) (by decide) rfl (fun ls hl => ?_)
          refine lv_goto (tgt := 15) hx hb d_M_numbers_39 (by decide) ?_
          exact ih15 (k + 1) (by omega) (by omega) _ _ _ (lt_s (fun q hq => by rw [updN_n (by omega)]; exact hsh q hq) updN_s) hM hS ls (lv_sub hl [0, 1, 2, 3, 4, 5] rfl)
    exact loop24 (dc + 1) 0 (by omega) (by omega) _ _ sh (fun q hq => absurd hq (Nat.not_lt_zero q)) hM hS ls (lv_sub hl [0, 1, 2, 3, 4, 5] rfl)
abbrev b_M_rows : ByteArray := prog_12_method_65_code
abbrev y_M_rows : MethodName := ⟨"ValueTreesModel", "rows", "(II)I"⟩
abbrev w_M_rows : List Cond := .code y_M_rows b_M_rows 7 (Option.some .int) :: gt
theorem hd_M_rows : (y_M_rows).cls ≠ "java/lang/invoke/MethodHandle" ∧ (y_M_rows).cls ≠ "java/lang/invoke/VarHandle" ∧ (parseMethodDescriptor (y_M_rows).desc).map (fun d => d.parameters.length) = some 2 := by decide +kernel
theorem d_M_rows_0 : decode b_M_rows 0 = .ok (.aload_n 0, 1) := by decide +kernel
theorem d_M_rows_1 : decode b_M_rows 1 = .ok (.iload_n 1, 1) := by decide +kernel
theorem d_M_rows_2 : decode b_M_rows 2 = .ok (.iconst 1, 1) := by decide +kernel
theorem d_M_rows_3 : decode b_M_rows 3 = .ok (.iadd, 1) := by decide +kernel
theorem d_M_rows_4 : decode b_M_rows 4 = .ok (.invokevirtual 82, 3) := by decide +kernel
theorem d_M_rows_7 : decode b_M_rows 7 = .ok (.istore_n 3, 1) := by decide +kernel
theorem d_M_rows_8 : decode b_M_rows 8 = .ok (.aload_n 0, 1) := by decide +kernel
theorem d_M_rows_9 : decode b_M_rows 9 = .ok (.iload_n 2, 1) := by decide +kernel
theorem d_M_rows_10 : decode b_M_rows 10 = .ok (.iconst 1, 1) := by decide +kernel
theorem d_M_rows_11 : decode b_M_rows 11 = .ok (.iadd, 1) := by decide +kernel
theorem d_M_rows_12 : decode b_M_rows 12 = .ok (.invokevirtual 82, 3) := by decide +kernel
theorem d_M_rows_15 : decode b_M_rows 15 = .ok (.istore 4, 2) := by decide +kernel
theorem d_M_rows_17 : decode b_M_rows 17 = .ok (.iconst 0, 1) := by decide +kernel
theorem d_M_rows_18 : decode b_M_rows 18 = .ok (.istore 5, 2) := by decide +kernel
theorem d_M_rows_20 : decode b_M_rows 20 = .ok (.iconst 0, 1) := by decide +kernel
theorem d_M_rows_21 : decode b_M_rows 21 = .ok (.istore 6, 2) := by decide +kernel
theorem d_M_rows_23 : decode b_M_rows 23 = .ok (.iload 6, 2) := by decide +kernel
theorem d_M_rows_25 : decode b_M_rows 25 = .ok (.iload_n 3, 1) := by decide +kernel
theorem d_M_rows_26 : decode b_M_rows 26 = .ok (.if_icmp .ge 47, 3) := by decide +kernel
theorem d_M_rows_29 : decode b_M_rows 29 = .ok (.iload 6, 2) := by decide +kernel
theorem d_M_rows_31 : decode b_M_rows 31 = .ok (.iload 4, 2) := by decide +kernel
theorem d_M_rows_33 : decode b_M_rows 33 = .ok (.if_icmp .ge 40, 3) := by decide +kernel
theorem d_M_rows_36 : decode b_M_rows 36 = .ok (.iload 5, 2) := by decide +kernel
theorem d_M_rows_38 : decode b_M_rows 38 = .ok (.ifCond .ne 35, 3) := by decide +kernel
theorem d_M_rows_41 : decode b_M_rows 41 = .ok (.aload_n 0, 1) := by decide +kernel
theorem d_M_rows_42 : decode b_M_rows 42 = .ok (.aload_n 0, 1) := by decide +kernel
theorem d_M_rows_43 : decode b_M_rows 43 = .ok (.iload_n 1, 1) := by decide +kernel
theorem d_M_rows_44 : decode b_M_rows 44 = .ok (.iconst 5, 1) := by decide +kernel
theorem d_M_rows_45 : decode b_M_rows 45 = .ok (.iadd, 1) := by decide +kernel
theorem d_M_rows_46 : decode b_M_rows 46 = .ok (.iload 6, 2) := by decide +kernel
theorem d_M_rows_48 : decode b_M_rows 48 = .ok (.iadd, 1) := by decide +kernel
theorem d_M_rows_49 : decode b_M_rows 49 = .ok (.invokevirtual 72, 3) := by decide +kernel
theorem d_M_rows_52 : decode b_M_rows 52 = .ok (.aload_n 0, 1) := by decide +kernel
theorem d_M_rows_53 : decode b_M_rows 53 = .ok (.iload_n 2, 1) := by decide +kernel
theorem d_M_rows_54 : decode b_M_rows 54 = .ok (.iconst 5, 1) := by decide +kernel
theorem d_M_rows_55 : decode b_M_rows 55 = .ok (.iadd, 1) := by decide +kernel
theorem d_M_rows_56 : decode b_M_rows 56 = .ok (.iload 6, 2) := by decide +kernel
theorem d_M_rows_58 : decode b_M_rows 58 = .ok (.iadd, 1) := by decide +kernel
theorem d_M_rows_59 : decode b_M_rows 59 = .ok (.invokevirtual 72, 3) := by decide +kernel
theorem d_M_rows_62 : decode b_M_rows 62 = .ok (.invokevirtual 177, 3) := by decide +kernel
theorem d_M_rows_65 : decode b_M_rows 65 = .ok (.istore 5, 2) := by decide +kernel
theorem d_M_rows_67 : decode b_M_rows 67 = .ok (.iinc 6 1, 3) := by decide +kernel
theorem d_M_rows_70 : decode b_M_rows 70 = .ok (.goto (-47), 3) := by decide +kernel
theorem d_M_rows_73 : decode b_M_rows 73 = .ok (.iload 5, 2) := by decide +kernel
theorem d_M_rows_75 : decode b_M_rows 75 = .ok (.ifCond .ne 13, 3) := by decide +kernel
theorem d_M_rows_78 : decode b_M_rows 78 = .ok (.aload_n 0, 1) := by decide +kernel
theorem d_M_rows_79 : decode b_M_rows 79 = .ok (.iload_n 3, 1) := by decide +kernel
theorem d_M_rows_80 : decode b_M_rows 80 = .ok (.iload 4, 2) := by decide +kernel
theorem d_M_rows_82 : decode b_M_rows 82 = .ok (.invokevirtual 177, 3) := by decide +kernel
theorem d_M_rows_85 : decode b_M_rows 85 = .ok (.goto 5, 3) := by decide +kernel
theorem d_M_rows_88 : decode b_M_rows 88 = .ok (.iload 5, 2) := by decide +kernel
theorem d_M_rows_90 : decode b_M_rows 90 = .ok (.ireturn, 1) := by decide +kernel
set_option maxHeartbeats 4000000 in
set_option maxRecDepth 100000 in
theorem c_M_rows (l : Launch) (D : va_G) (dT : Nat → ClassId) (H : Heap) (mm : Nat → Nat) (wd lf rt : Nat → Int32) (tc : Nat) (ty : Nat → Int32) (F : Nat → Nat) (sz : Nat → Int32) (Wk : Nat → Nat) (wz : Nat) (dg : Nat → Nat) (dc : Nat) (sh : Nat → Nat) (hM : mAt D dT mm wd lf rt tc ty F sz Wk wz dg dc sh H) (hF : ∀ k, F k < 256) (a b ca cb : Nat) (hsa : fAt F (a + 1) (size4 (ca % 16))) (hsb : fAt F (b + 1) (size4 (cb % 16))) (hfa : fAt F (a + 5) (rser ca)) (hfb : fAt F (b + 5) (rser cb)) (ha : a + 5 + ca % 16 ≤ 2560) (hb9 : b + 5 + cb % 16 ≤ 2560) : Met l y_M_rows w_M_rows ({ frames := 2, cells := 0, slots := 0, locals := 42 }) (z_P D dT [.ref (mm 0), .int (nI a), .int (nI b)] H) (z_R (fun v => v = .int (lcmp (rser ca) (rser cb)))) 0 0 (fun _ => False) := by
  refine Met.ofW (cc := b_M_rows) (maxL := 7) (ret := (Option.some .int)) (by decide) rfl ?_
  intro p e s m args below meth c s₁ B hml hv
  obtain ⟨rfl, rfl, hK⟩ := hv
  have hx := B.exec
  have hb := B.bytes
  have hr := B.returns
  have hts := atoms_spec (ws := w_M_rows) B.pre
  have ht : ∀ w9 ∈ gt, w9.before [.ref (mm 0), .int (nI a), .int (nI b)].toArray s = true := fun w9 h => hts w9 (List.mem_cons_of_mem _ h)
  have hown : s.vm.findClass "ValueTreesModel" = some m.cls := findClass_of_methodNamed B.named
  have hlocks := B.notSynchronized
  have hl := lv_entry ([.ref (mm 0), .int (nI a), .int (nI b)]) (n := 7) (Nat.le_of_ble_eq_true rfl)
  rw [lg_entry_eq]
  generalize (lg_sl ([.ref (mm 0), .int (nI a), .int (nI b)]) ++ List.replicate (7 - (lg_sl ([.ref (mm 0), .int (nI a), .int (nI b)])).length) Slot.unset).toArray = ls at hl ⊢
  have hl : lv_has ls 7 [(0, .ref (mm 0)), (1, .int (nI a)), (2, .int (nI b))] := hl
  have hlx := rser_len ca
  have hly := rser_len cb
  refine lv_aload_n hx hb d_M_rows_0 rfl (lv_at hl 0 rfl) ?_
  refine lv_iload_n hx hb d_M_rows_1 rfl (lv_at hl 1 rfl) ?_
  refine lv_iconst (v := 1) hx hb d_M_rows_2 (by decide) ?_
  refine lv_iadd hx hb d_M_rows_3 ?_
  rw [show (((nI a) + 1) : Int32) = nI (a + 1) from nI_add a 1]
  refine z_callR (va_runV (C := "ValueTreesModel") (As := [.int (nI (a + 1))]) (rest := []) ⟨hx, hb, hml, hown, hts⟩ (c_M_sizeAt l D dT _ mm wd lf rt tc ty F sz Wk wz dg dc sh hM hF (a + 1) (ca % 16) (by omega) (by omega) hsa) ⟨callB_of 1 hts (gI gd_up gd_c q758) rfl rfl rfl (ht _ q10) (ht _ q755) hd_M_sizeAt ⟨Nat.le_of_ble_eq_true rfl, Nat.le_of_ble_eq_true rfl⟩, ht _ q757, ht _ qs42⟩ (z_preV hK (va_recv hK.1 hM.1 (ci := 10) (q0 := 0) rfl rfl)) rfl rfl hl.1 rfl (lv_room (Nat.le_of_ble_eq_true rfl)) d_M_rows_4 ⟨Nat.zero_le _, Nat.zero_le _⟩) (fun v2 hv1 => ?_)
  subst hv1
  refine lv_istore_n (lv' := [(3, .int (nI (ca % 16))), (0, .ref (mm 0)), (1, .int (nI a)), (2, .int (nI b))]) hx hb d_M_rows_7 rfl hl (by decide) rfl (fun ls hl => ?_)
  refine lv_aload_n hx hb d_M_rows_8 rfl (lv_at hl 1 rfl) ?_
  refine lv_iload_n hx hb d_M_rows_9 rfl (lv_at hl 3 rfl) ?_
  refine lv_iconst (v := 1) hx hb d_M_rows_10 (by decide) ?_
  refine lv_iadd hx hb d_M_rows_11 ?_
  rw [show (((nI b) + 1) : Int32) = nI (b + 1) from nI_add b 1]
  refine z_callR (va_runV (C := "ValueTreesModel") (As := [.int (nI (b + 1))]) (rest := []) ⟨hx, hb, hml, hown, hts⟩ (c_M_sizeAt l D dT _ mm wd lf rt tc ty F sz Wk wz dg dc sh hM hF (b + 1) (cb % 16) (by omega) (by omega) hsb) ⟨callB_of 1 hts (gI gd_up gd_c q758) rfl rfl rfl (ht _ q10) (ht _ q755) hd_M_sizeAt ⟨Nat.le_of_ble_eq_true rfl, Nat.le_of_ble_eq_true rfl⟩, ht _ q757, ht _ qs42⟩ (z_preV hK (va_recv hK.1 hM.1 (ci := 10) (q0 := 0) rfl rfl)) rfl rfl hl.1 rfl (lv_room (Nat.le_of_ble_eq_true rfl)) d_M_rows_12 ⟨Nat.zero_le _, Nat.zero_le _⟩) (fun v4 hv3 => ?_)
  subst hv3
  refine lv_istore (lv' := [(4, .int (nI (cb % 16))), (3, .int (nI (ca % 16))), (0, .ref (mm 0)), (1, .int (nI a)), (2, .int (nI b))]) hx hb d_M_rows_15 hl (by decide) rfl (fun ls hl => ?_)
  refine lv_iconst (v := 0) hx hb d_M_rows_17 (by decide) ?_
  refine lv_istore (lv' := [(5, .int 0), (4, .int (nI (cb % 16))), (3, .int (nI (ca % 16))), (0, .ref (mm 0)), (1, .int (nI a)), (2, .int (nI b))]) hx hb d_M_rows_18 hl (by decide) rfl (fun ls hl => ?_)
  refine lv_iconst (v := 0) hx hb d_M_rows_20 (by decide) ?_
  refine lv_istore (lv' := [(6, .int 0), (5, .int 0), (4, .int (nI (cb % 16))), (3, .int (nI (ca % 16))), (0, .ref (mm 0)), (1, .int (nI a)), (2, .int (nI b))]) hx hb d_M_rows_21 hl (by decide) rfl (fun ls hl => ?_)
  have loop5 : ∀ (n239 : Nat) (k : Nat) (c9 : Int32), (k ≤ ca % 16) → (k ≤ cb % 16) → (rSt (rser ca) (rser cb) k c9) → ca % 16 - k < n239 → ∀ (ls : Array Slot), lv_has ls 7 [(6, .int (nI k)), (5, .int c9), (3, .int (nI (ca % 16))), (4, .int (nI (cb % 16))), (0, .ref (mm 0)), (1, .int (nI a)), (2, .int (nI b))] → W p l e (headSpec w_M_rows ({ frames := 2, cells := 0, slots := 0, locals := 42 })).room s m [.ref (mm 0), .int (nI a), .int (nI b)].toArray below meth c s.heap [] 0 0 (MQ below (z_R (fun v => v = .int (lcmp (rser ca) (rser cb)))) [.ref (mm 0), .int (nI a), .int (nI b)].toArray s 0 0 (fun _ => False)) (F0 m 23 ls []) := by
    intro n239
    induction n239 with
    | zero =>
      intro k c9 hk hk2 hc h239
      exact absurd h239 (Nat.not_lt_zero _)
    | succ n239 ih23 =>
      intro k c9 hk hk2 hc h239  ls hl
      refine lv_iload hx hb d_M_rows_23 (lv_at hl 0 rfl) ?_
      refine lv_iload_n hx hb d_M_rows_25 rfl (lv_at hl 2 rfl) ?_
      refine lv_icmp_ge (tgt := 73) hx hb d_M_rows_26 (by decide) (fun c6 => ?_) (fun c6 => ?_)
      · have nc6 : (ca % 16) ≤ k := (nI_leI (a := (ca % 16)) (b := k) (by omega) (by omega)).mp c6
        refine lv_iload hx hb d_M_rows_73 (lv_at hl 1 rfl) ?_
        refine lv_if_ne (tgt := 88) hx hb d_M_rows_75 (by decide) (fun c7 => ?_) (fun c7 => ?_)
        · refine lv_iload hx hb d_M_rows_88 (lv_at hl 1 rfl) ?_
          refine z_iretR hx hb hr hlocks d_M_rows_90 ?_
          rcases hc with ⟨h9, -⟩ | ⟨-, h9⟩
          · exact absurd h9 c7
          · rw [h9]
        · refine lv_aload_n hx hb d_M_rows_78 rfl (lv_at hl 4 rfl) ?_
          refine lv_iload_n hx hb d_M_rows_79 rfl (lv_at hl 2 rfl) ?_
          refine lv_iload hx hb d_M_rows_80 (lv_at hl 3 rfl) ?_
          refine z_callR (va_runV (C := "ValueTreesModel") (As := [.int (nI (ca % 16)), .int (nI (cb % 16))]) (rest := []) ⟨hx, hb, hml, hown, hts⟩ (c_M_sign l D dT _ (mm 0) (nI (ca % 16)) (nI (cb % 16))) ⟨callB_of 2 hts (gI gd_up gd_c q747) rfl rfl rfl (ht _ q10) (ht _ q744) hd_M_sign ⟨Nat.le_of_ble_eq_true rfl, Nat.le_of_ble_eq_true rfl⟩, ht _ q746, ht _ qs40⟩ (z_preV hK (va_recv hK.1 hM.1 (ci := 10) (q0 := 0) rfl rfl)) rfl rfl hl.1 rfl (lv_room (Nat.le_of_ble_eq_true rfl)) d_M_rows_82 ⟨Nat.zero_le _, Nat.zero_le _⟩) (fun v9 hv8 => ?_)
          have hv8 : v9 = .int (sg (ca % 16) (cb % 16)) := by rw [← sg_nI (by omega) (by omega)]; exact hv8
          subst hv8
          refine lv_goto (tgt := 90) hx hb d_M_rows_85 (by decide) ?_
          refine z_iretR hx hb hr hlocks d_M_rows_90 ?_
          rcases hc with ⟨-, h9⟩ | ⟨h9, -⟩
          · rw [h9, lcmp_end (by omega) (by omega) (by omega), hlx, hly]
          · exact absurd c7 h9
      · have nc6 : ¬ (ca % 16) ≤ k := fun h9 => c6 ((nI_leI (a := (ca % 16)) (b := k) (by omega) (by omega)).mpr h9)
        refine lv_iload hx hb d_M_rows_29 (lv_at hl 0 rfl) ?_
        refine lv_iload hx hb d_M_rows_31 (lv_at hl 3 rfl) ?_
        refine lv_icmp_ge (tgt := 73) hx hb d_M_rows_33 (by decide) (fun c10 => ?_) (fun c10 => ?_)
        · have nc10 : (cb % 16) ≤ k := (nI_leI (a := (cb % 16)) (b := k) (by omega) (by omega)).mp c10
          refine lv_iload hx hb d_M_rows_73 (lv_at hl 1 rfl) ?_
          refine lv_if_ne (tgt := 88) hx hb d_M_rows_75 (by decide) (fun c11 => ?_) (fun c11 => ?_)
          · refine lv_iload hx hb d_M_rows_88 (lv_at hl 1 rfl) ?_
            refine z_iretR hx hb hr hlocks d_M_rows_90 ?_
            rcases hc with ⟨h9, -⟩ | ⟨-, h9⟩
            · exact absurd h9 c11
            · rw [h9]
          · refine lv_aload_n hx hb d_M_rows_78 rfl (lv_at hl 4 rfl) ?_
            refine lv_iload_n hx hb d_M_rows_79 rfl (lv_at hl 2 rfl) ?_
            refine lv_iload hx hb d_M_rows_80 (lv_at hl 3 rfl) ?_
            refine z_callR (va_runV (C := "ValueTreesModel") (As := [.int (nI (ca % 16)), .int (nI (cb % 16))]) (rest := []) ⟨hx, hb, hml, hown, hts⟩ (c_M_sign l D dT _ (mm 0) (nI (ca % 16)) (nI (cb % 16))) ⟨callB_of 2 hts (gI gd_up gd_c q747) rfl rfl rfl (ht _ q10) (ht _ q744) hd_M_sign ⟨Nat.le_of_ble_eq_true rfl, Nat.le_of_ble_eq_true rfl⟩, ht _ q746, ht _ qs40⟩ (z_preV hK (va_recv hK.1 hM.1 (ci := 10) (q0 := 0) rfl rfl)) rfl rfl hl.1 rfl (lv_room (Nat.le_of_ble_eq_true rfl)) d_M_rows_82 ⟨Nat.zero_le _, Nat.zero_le _⟩) (fun v13 hv12 => ?_)
            have hv12 : v13 = .int (sg (ca % 16) (cb % 16)) := by rw [← sg_nI (by omega) (by omega)]; exact hv12
            subst hv12
            refine lv_goto (tgt := 90) hx hb d_M_rows_85 (by decide) ?_
            refine z_iretR hx hb hr hlocks d_M_rows_90 ?_
            rcases hc with ⟨-, h9⟩ | ⟨h9, -⟩
            · rw [h9, lcmp_end (by omega) (by omega) (by omega), hlx, hly]
            · exact absurd c11 h9
        · have nc10 : ¬ (cb % 16) ≤ k := fun h9 => c10 ((nI_leI (a := (cb % 16)) (b := k) (by omega) (by omega)).mpr h9)
          refine lv_iload hx hb d_M_rows_36 (lv_at hl 1 rfl) ?_
          refine lv_if_ne (tgt := 73) hx hb d_M_rows_38 (by decide) (fun c14 => ?_) (fun c14 => ?_)
          · refine lv_iload hx hb d_M_rows_73 (lv_at hl 1 rfl) ?_
            refine lv_if_ne (tgt := 88) hx hb d_M_rows_75 (by decide) (fun c15 => ?_) (fun c15 => absurd c15 c14)
            refine lv_iload hx hb d_M_rows_88 (lv_at hl 1 rfl) ?_
            refine z_iretR hx hb hr hlocks d_M_rows_90 ?_
            rcases hc with ⟨h9, -⟩ | ⟨-, h9⟩
            · exact absurd h9 c15
            · rw [h9]
          · have hfk := hfa k (by omega)
            have hgk := hfb k (by omega)
            have hFa := hF (a + 5 + k)
            have hFb := hF (b + 5 + k)
            rw [hfk] at hFa
            rw [hgk] at hFb
            refine lv_aload_n hx hb d_M_rows_41 rfl (lv_at hl 4 rfl) ?_
            refine lv_aload_n hx hb d_M_rows_42 rfl (lv_at hl 4 rfl) ?_
            refine lv_iload_n hx hb d_M_rows_43 rfl (lv_at hl 5 rfl) ?_
            refine lv_iconst (v := 5) hx hb d_M_rows_44 (by decide) ?_
            refine lv_iadd hx hb d_M_rows_45 ?_
            rw [show (((nI a) + 5) : Int32) = nI (a + 5) from nI_add a 5]
            refine lv_iload hx hb d_M_rows_46 (lv_at hl 0 rfl) ?_
            refine lv_iadd hx hb d_M_rows_48 ?_
            rw [show (((nI (a + 5)) + (nI k)) : Int32) = nI ((a + 5) + k) from nI_add (a + 5) k]
            refine z_callR (va_runV (C := "ValueTreesModel") (As := [.int (nI ((a + 5) + k))]) (rest := [.ref (mm 0)]) ⟨hx, hb, hml, hown, hts⟩ (c_M_byteOf l D dT _ mm wd lf rt tc ty F sz Wk wz dg dc sh hM ((a + 5) + k) (by omega) (hF _)) ⟨callB_of 1 hts (gI gd_up gd_c q670) rfl rfl rfl (ht _ q10) (ht _ q667) hd_M_byteOf ⟨Nat.le_of_ble_eq_true rfl, Nat.le_of_ble_eq_true rfl⟩, ht _ q669, ht _ qs29⟩ (z_preV hK (va_recv hK.1 hM.1 (ci := 10) (q0 := 0) rfl rfl)) rfl rfl hl.1 rfl (lv_room (Nat.le_of_ble_eq_true rfl)) d_M_rows_49 ⟨Nat.zero_le _, Nat.zero_le _⟩) (fun v17 hv16 => ?_)
            subst hv16
            rw [hfk]
            refine lv_aload_n hx hb d_M_rows_52 rfl (lv_at hl 4 rfl) ?_
            refine lv_iload_n hx hb d_M_rows_53 rfl (lv_at hl 6 rfl) ?_
            refine lv_iconst (v := 5) hx hb d_M_rows_54 (by decide) ?_
            refine lv_iadd hx hb d_M_rows_55 ?_
            rw [show (((nI b) + 5) : Int32) = nI (b + 5) from nI_add b 5]
            refine lv_iload hx hb d_M_rows_56 (lv_at hl 0 rfl) ?_
            refine lv_iadd hx hb d_M_rows_58 ?_
            rw [show (((nI (b + 5)) + (nI k)) : Int32) = nI ((b + 5) + k) from nI_add (b + 5) k]
            refine z_callR (va_runV (C := "ValueTreesModel") (As := [.int (nI ((b + 5) + k))]) (rest := [.int (nI ((rser ca).getD k 0)), .ref (mm 0)]) ⟨hx, hb, hml, hown, hts⟩ (c_M_byteOf l D dT _ mm wd lf rt tc ty F sz Wk wz dg dc sh hM ((b + 5) + k) (by omega) (hF _)) ⟨callB_of 1 hts (gI gd_up gd_c q670) rfl rfl rfl (ht _ q10) (ht _ q667) hd_M_byteOf ⟨Nat.le_of_ble_eq_true rfl, Nat.le_of_ble_eq_true rfl⟩, ht _ q669, ht _ qs29⟩ (z_preV hK (va_recv hK.1 hM.1 (ci := 10) (q0 := 0) rfl rfl)) rfl rfl hl.1 rfl (lv_room (Nat.le_of_ble_eq_true rfl)) d_M_rows_59 ⟨Nat.zero_le _, Nat.zero_le _⟩) (fun v19 hv18 => ?_)
            subst hv18
            rw [hgk]
            refine z_callR (va_runV (C := "ValueTreesModel") (As := [.int (nI ((rser ca).getD k 0)), .int (nI ((rser cb).getD k 0))]) (rest := []) ⟨hx, hb, hml, hown, hts⟩ (c_M_sign l D dT _ (mm 0) (nI ((rser ca).getD k 0)) (nI ((rser cb).getD k 0))) ⟨callB_of 2 hts (gI gd_up gd_c q747) rfl rfl rfl (ht _ q10) (ht _ q744) hd_M_sign ⟨Nat.le_of_ble_eq_true rfl, Nat.le_of_ble_eq_true rfl⟩, ht _ q746, ht _ qs40⟩ (z_preV hK (va_recv hK.1 hM.1 (ci := 10) (q0 := 0) rfl rfl)) rfl rfl hl.1 rfl (lv_room (Nat.le_of_ble_eq_true rfl)) d_M_rows_62 ⟨Nat.zero_le _, Nat.zero_le _⟩) (fun v21 hv20 => ?_)
            have hv20 : v21 = .int (sg ((rser ca).getD k 0) ((rser cb).getD k 0)) := by rw [← sg_nI (by omega) (by omega)]; exact hv20
            subst hv20
            refine lv_istore (lv' := [(5, .int (sg ((rser ca).getD k 0) ((rser cb).getD k 0))), (6, .int (nI k)), (3, .int (nI (ca % 16))), (4, .int (nI (cb % 16))), (0, .ref (mm 0)), (1, .int (nI a)), (2, .int (nI b))]) hx hb d_M_rows_65 hl (by decide) rfl (fun ls hl => ?_)
            refine lv_iinc (v := (nI (k + 1))) (lv' := [(6, .int (nI (k + 1))), (5, .int (sg ((rser ca).getD k 0) ((rser cb).getD k 0))), (3, .int (nI (ca % 16))), (4, .int (nI (cb % 16))), (0, .ref (mm 0)), (1, .int (nI a)), (2, .int (nI b))]) hx hb d_M_rows_67 hl (k := 1) rfl (nI_1 k) (by decide) rfl (fun ls hl => ?_)
            refine lv_goto (tgt := 23) hx hb d_M_rows_70 (by decide) ?_
            exact ih23 (k + 1) (sg ((rser ca).getD k 0) ((rser cb).getD k 0)) (by omega) (by omega) (rSt_s hc c14 (by omega) (by omega)) (by omega)  ls (lv_sub hl [0, 1, 2, 3, 4, 5, 6] rfl)
  exact loop5 (ca % 16 + 1) 0 0 (by omega) (by omega) (Or.inl ⟨rfl, rfl⟩) (by omega)  ls (lv_sub hl [0, 1, 3, 2, 4, 5, 6] rfl)
