abbrev b_V_numberOrder : ByteArray := prog_1_method_47_code
abbrev y_V_numberOrder : MethodName := ⟨"ValueTrees", "numberOrder", "(LValueTrees$Whole;LValueTrees$Whole;)I"⟩
abbrev w_V_numberOrder : List Cond := .code y_V_numberOrder b_V_numberOrder 4 (Option.some .int) :: gt
theorem hd_V_numberOrder : (y_V_numberOrder).cls ≠ "java/lang/invoke/MethodHandle" ∧ (y_V_numberOrder).cls ≠ "java/lang/invoke/VarHandle" ∧ (parseMethodDescriptor (y_V_numberOrder).desc).map (fun d => d.parameters.length) = some 2 := by decide +kernel
theorem d_V_numberOrder_0 : decode b_V_numberOrder 0 = .ok (.aload_n 0, 1) := by decide +kernel
theorem d_V_numberOrder_1 : decode b_V_numberOrder 1 = .ok (.getfield 87, 3) := by decide +kernel
theorem d_V_numberOrder_4 : decode b_V_numberOrder 4 = .ok (.ifCond .eq 7, 3) := by decide +kernel
theorem d_V_numberOrder_7 : decode b_V_numberOrder 7 = .ok (.iconst (-1), 1) := by decide +kernel
theorem d_V_numberOrder_8 : decode b_V_numberOrder 8 = .ok (.goto 4, 3) := by decide +kernel
theorem d_V_numberOrder_11 : decode b_V_numberOrder 11 = .ok (.iconst 1, 1) := by decide +kernel
theorem d_V_numberOrder_12 : decode b_V_numberOrder 12 = .ok (.istore_n 2, 1) := by decide +kernel
theorem d_V_numberOrder_13 : decode b_V_numberOrder 13 = .ok (.aload_n 0, 1) := by decide +kernel
theorem d_V_numberOrder_14 : decode b_V_numberOrder 14 = .ok (.getfield 87, 3) := by decide +kernel
theorem d_V_numberOrder_17 : decode b_V_numberOrder 17 = .ok (.aload_n 1, 1) := by decide +kernel
theorem d_V_numberOrder_18 : decode b_V_numberOrder 18 = .ok (.getfield 87, 3) := by decide +kernel
theorem d_V_numberOrder_21 : decode b_V_numberOrder 21 = .ok (.if_icmp .eq 5, 3) := by decide +kernel
theorem d_V_numberOrder_24 : decode b_V_numberOrder 24 = .ok (.iload_n 2, 1) := by decide +kernel
theorem d_V_numberOrder_25 : decode b_V_numberOrder 25 = .ok (.ireturn, 1) := by decide +kernel
theorem d_V_numberOrder_26 : decode b_V_numberOrder 26 = .ok (.aload_n 0, 1) := by decide +kernel
theorem d_V_numberOrder_27 : decode b_V_numberOrder 27 = .ok (.getfield 81, 3) := by decide +kernel
theorem d_V_numberOrder_30 : decode b_V_numberOrder 30 = .ok (.aload_n 1, 1) := by decide +kernel
theorem d_V_numberOrder_31 : decode b_V_numberOrder 31 = .ok (.getfield 81, 3) := by decide +kernel
theorem d_V_numberOrder_34 : decode b_V_numberOrder 34 = .ok (.if_icmp .eq 21, 3) := by decide +kernel
theorem d_V_numberOrder_37 : decode b_V_numberOrder 37 = .ok (.aload_n 0, 1) := by decide +kernel
theorem d_V_numberOrder_38 : decode b_V_numberOrder 38 = .ok (.getfield 81, 3) := by decide +kernel
theorem d_V_numberOrder_41 : decode b_V_numberOrder 41 = .ok (.aload_n 1, 1) := by decide +kernel
theorem d_V_numberOrder_42 : decode b_V_numberOrder 42 = .ok (.getfield 81, 3) := by decide +kernel
theorem d_V_numberOrder_45 : decode b_V_numberOrder 45 = .ok (.if_icmp .le 7, 3) := by decide +kernel
theorem d_V_numberOrder_48 : decode b_V_numberOrder 48 = .ok (.iload_n 2, 1) := by decide +kernel
theorem d_V_numberOrder_49 : decode b_V_numberOrder 49 = .ok (.goto 5, 3) := by decide +kernel
theorem d_V_numberOrder_52 : decode b_V_numberOrder 52 = .ok (.iload_n 2, 1) := by decide +kernel
theorem d_V_numberOrder_53 : decode b_V_numberOrder 53 = .ok (.ineg, 1) := by decide +kernel
theorem d_V_numberOrder_54 : decode b_V_numberOrder 54 = .ok (.ireturn, 1) := by decide +kernel
theorem d_V_numberOrder_55 : decode b_V_numberOrder 55 = .ok (.aload_n 0, 1) := by decide +kernel
theorem d_V_numberOrder_56 : decode b_V_numberOrder 56 = .ok (.getfield 91, 3) := by decide +kernel
theorem d_V_numberOrder_59 : decode b_V_numberOrder 59 = .ok (.arraylength, 1) := by decide +kernel
theorem d_V_numberOrder_60 : decode b_V_numberOrder 60 = .ok (.aload_n 1, 1) := by decide +kernel
theorem d_V_numberOrder_61 : decode b_V_numberOrder 61 = .ok (.getfield 91, 3) := by decide +kernel
theorem d_V_numberOrder_64 : decode b_V_numberOrder 64 = .ok (.arraylength, 1) := by decide +kernel
theorem d_V_numberOrder_65 : decode b_V_numberOrder 65 = .ok (.invokestatic 259, 3) := by decide +kernel
theorem d_V_numberOrder_68 : decode b_V_numberOrder 68 = .ok (.iconst 1, 1) := by decide +kernel
theorem d_V_numberOrder_69 : decode b_V_numberOrder 69 = .ok (.isub, 1) := by decide +kernel
theorem d_V_numberOrder_70 : decode b_V_numberOrder 70 = .ok (.istore_n 3, 1) := by decide +kernel
theorem d_V_numberOrder_71 : decode b_V_numberOrder 71 = .ok (.iload_n 3, 1) := by decide +kernel
theorem d_V_numberOrder_72 : decode b_V_numberOrder 72 = .ok (.ifCond .lt 46, 3) := by decide +kernel
theorem d_V_numberOrder_75 : decode b_V_numberOrder 75 = .ok (.aload_n 0, 1) := by decide +kernel
theorem d_V_numberOrder_76 : decode b_V_numberOrder 76 = .ok (.getfield 91, 3) := by decide +kernel
theorem d_V_numberOrder_79 : decode b_V_numberOrder 79 = .ok (.iload_n 3, 1) := by decide +kernel
theorem d_V_numberOrder_80 : decode b_V_numberOrder 80 = .ok (.iaload, 1) := by decide +kernel
theorem d_V_numberOrder_81 : decode b_V_numberOrder 81 = .ok (.aload_n 1, 1) := by decide +kernel
theorem d_V_numberOrder_82 : decode b_V_numberOrder 82 = .ok (.getfield 91, 3) := by decide +kernel
theorem d_V_numberOrder_85 : decode b_V_numberOrder 85 = .ok (.iload_n 3, 1) := by decide +kernel
theorem d_V_numberOrder_86 : decode b_V_numberOrder 86 = .ok (.iaload, 1) := by decide +kernel
theorem d_V_numberOrder_87 : decode b_V_numberOrder 87 = .ok (.if_icmp .eq 25, 3) := by decide +kernel
theorem d_V_numberOrder_90 : decode b_V_numberOrder 90 = .ok (.aload_n 0, 1) := by decide +kernel
theorem d_V_numberOrder_91 : decode b_V_numberOrder 91 = .ok (.getfield 91, 3) := by decide +kernel
theorem d_V_numberOrder_94 : decode b_V_numberOrder 94 = .ok (.iload_n 3, 1) := by decide +kernel
theorem d_V_numberOrder_95 : decode b_V_numberOrder 95 = .ok (.iaload, 1) := by decide +kernel
theorem d_V_numberOrder_96 : decode b_V_numberOrder 96 = .ok (.aload_n 1, 1) := by decide +kernel
theorem d_V_numberOrder_97 : decode b_V_numberOrder 97 = .ok (.getfield 91, 3) := by decide +kernel
theorem d_V_numberOrder_100 : decode b_V_numberOrder 100 = .ok (.iload_n 3, 1) := by decide +kernel
theorem d_V_numberOrder_101 : decode b_V_numberOrder 101 = .ok (.iaload, 1) := by decide +kernel
theorem d_V_numberOrder_102 : decode b_V_numberOrder 102 = .ok (.if_icmp .le 7, 3) := by decide +kernel
theorem d_V_numberOrder_105 : decode b_V_numberOrder 105 = .ok (.iload_n 2, 1) := by decide +kernel
theorem d_V_numberOrder_106 : decode b_V_numberOrder 106 = .ok (.goto 5, 3) := by decide +kernel
theorem d_V_numberOrder_109 : decode b_V_numberOrder 109 = .ok (.iload_n 2, 1) := by decide +kernel
theorem d_V_numberOrder_110 : decode b_V_numberOrder 110 = .ok (.ineg, 1) := by decide +kernel
theorem d_V_numberOrder_111 : decode b_V_numberOrder 111 = .ok (.ireturn, 1) := by decide +kernel
theorem d_V_numberOrder_112 : decode b_V_numberOrder 112 = .ok (.iinc 3 (-1), 3) := by decide +kernel
theorem d_V_numberOrder_115 : decode b_V_numberOrder 115 = .ok (.goto (-44), 3) := by decide +kernel
theorem d_V_numberOrder_118 : decode b_V_numberOrder 118 = .ok (.iconst 0, 1) := by decide +kernel
theorem d_V_numberOrder_119 : decode b_V_numberOrder 119 = .ok (.ireturn, 1) := by decide +kernel
set_option maxHeartbeats 4000000 in
set_option maxRecDepth 100000 in
theorem c_V_numberOrder (l : Launch) (D : va_G) (dT : Nat → ClassId) (H : Heap) (Bq : Nat → Prop) (a b t u : Nat) (z y : Int) (hra : rv D dT Bq H (.pow (.num z) t) a) (hrb : rv D dT Bq H (.pow (.num y) u) b) (hz : z.natAbs < 2 ^ 1024) (hy : y.natAbs < 2 ^ 1024) : Met l y_V_numberOrder w_V_numberOrder ({ frames := 1, cells := 0, slots := 0, locals := 21 }) (z_P D dT [.ref a, .ref b] H) (z_R (fun v => v = .int (icmp z y))) 0 0 (fun _ => False) := by
  refine Met.ofW (cc := b_V_numberOrder) (maxL := 4) (ret := (Option.some .int)) (by decide) rfl ?_
  intro p e s m args below meth c s₁ B hml hv
  obtain ⟨rfl, rfl, hK⟩ := hv
  have hx := B.exec
  have hb := B.bytes
  have hr := B.returns
  have hts := atoms_spec (ws := w_V_numberOrder) B.pre
  have ht : ∀ w9 ∈ gt, w9.before [.ref a, .ref b].toArray s = true := fun w9 h => hts w9 (List.mem_cons_of_mem _ h)
  have hown : s.vm.findClass "ValueTrees" = some m.cls := findClass_of_methodNamed B.named
  have hlocks := B.notSynchronized
  have hl := lv_entry ([.ref a, .ref b]) (n := 4) (Nat.le_of_ble_eq_true rfl)
  rw [lg_entry_eq]
  generalize (lg_sl ([.ref a, .ref b]) ++ List.replicate (4 - (lg_sl ([.ref a, .ref b])).length) Slot.unset).toArray = ls at hl ⊢
  have hl : lv_has ls 4 [(0, .ref a), (1, .ref b)] := hl
  obtain ⟨da, oa, -, oda, -⟩ := rv_num.mp hra
  obtain ⟨db, ob, -, odb, -⟩ := rv_num.mp hrb
  have hnz : nb z.natAbs ≤ 1024 := nb_lt.mpr hz
  have hny : nb y.natAbs ≤ 1024 := nb_lt.mpr hy
  by_cases hz9 : z < 0
  · rw [if_pos hz9] at oa
    by_cases hy9 : y < 0
    · rw [if_pos hy9] at ob
      refine lv_aload_n hx hb d_V_numberOrder_0 rfl (lv_at hl 0 rfl) ?_
      refine va_get (D := D) (ci := 2) (v := .int 1) (C := "ValueTrees$Whole") (T := T_Whole) (N := 5) hx hb ht in_Whole hown hK.1 (z_1 oa) 0 rfl rfl 2 (by decide) (ht _ q225) (fun _ h9 => h9) rfl d_V_numberOrder_1 ?_
      refine lv_if_eq (tgt := 11) hx hb d_V_numberOrder_4 (by decide) (fun c1 => absurd c1 (by decide)) (fun _ => ?_)
      refine lv_iconst (v := (-1)) hx hb d_V_numberOrder_7 (by decide) ?_
      refine lv_goto (tgt := 12) hx hb d_V_numberOrder_8 (by decide) ?_
      refine lv_istore_n (lv' := [(2, .int (-1)), (0, .ref a), (1, .ref b)]) hx hb d_V_numberOrder_12 rfl hl (by decide) rfl (fun ls hl => ?_)
      refine lv_aload_n hx hb d_V_numberOrder_13 rfl (lv_at hl 1 rfl) ?_
      refine va_get (D := D) (ci := 2) (v := .int 1) (C := "ValueTrees$Whole") (T := T_Whole) (N := 5) hx hb ht in_Whole hown hK.1 (z_1 oa) 0 rfl rfl 2 (by decide) (ht _ q225) (fun _ h9 => h9) rfl d_V_numberOrder_14 ?_
      refine lv_aload_n hx hb d_V_numberOrder_17 rfl (lv_at hl 2 rfl) ?_
      refine va_get (D := D) (ci := 2) (v := .int 1) (C := "ValueTrees$Whole") (T := T_Whole) (N := 5) hx hb ht in_Whole hown hK.1 (z_1 ob) 0 rfl rfl 2 (by decide) (ht _ q225) (fun _ h9 => h9) rfl d_V_numberOrder_18 ?_
      refine lv_icmp_eq (tgt := 26) hx hb d_V_numberOrder_21 (by decide) (fun _ => ?_) (fun c2 => absurd c2 (by decide))
      refine lv_aload_n hx hb d_V_numberOrder_26 rfl (lv_at hl 1 rfl) ?_
      refine va_get (D := D) (ci := 2) (v := .int (nI (nb z.natAbs))) (C := "ValueTrees$Whole") (T := T_Whole) (N := 5) hx hb ht in_Whole hown hK.1 (z_1 oa) 0 rfl rfl 3 (by decide) (ht _ q227) (fun _ h9 => h9) rfl d_V_numberOrder_27 ?_
      refine lv_aload_n hx hb d_V_numberOrder_30 rfl (lv_at hl 2 rfl) ?_
      refine va_get (D := D) (ci := 2) (v := .int (nI (nb y.natAbs))) (C := "ValueTrees$Whole") (T := T_Whole) (N := 5) hx hb ht in_Whole hown hK.1 (z_1 ob) 0 rfl rfl 3 (by decide) (ht _ q227) (fun _ h9 => h9) rfl d_V_numberOrder_31 ?_
      refine lv_icmp_eq (tgt := 55) hx hb d_V_numberOrder_34 (by decide) (fun c3 => ?_) (fun c3 => ?_)
      · have nc3 : (nb z.natAbs) = (nb y.natAbs) := (nI_eq (a := (nb z.natAbs)) (b := (nb y.natAbs)) (by omega) (by omega)).mp c3
        refine lv_aload_n hx hb d_V_numberOrder_55 rfl (lv_at hl 1 rfl) ?_
        refine va_get (D := D) (ci := 2) (v := .ref da) (C := "ValueTrees$Whole") (T := T_Whole) (N := 5) hx hb ht in_Whole hown hK.1 (z_1 oa) 0 rfl rfl 4 (by decide) (ht _ q229) (fun _ h9 => h9) rfl d_V_numberOrder_56 ?_
        refine z_alen hx hb hK oda rfl d_V_numberOrder_59 ?_
        refine lv_aload_n hx hb d_V_numberOrder_60 rfl (lv_at hl 2 rfl) ?_
        refine va_get (D := D) (ci := 2) (v := .ref db) (C := "ValueTrees$Whole") (T := T_Whole) (N := 5) hx hb ht in_Whole hown hK.1 (z_1 ob) 0 rfl rfl 4 (by decide) (ht _ q229) (fun _ h9 => h9) rfl d_V_numberOrder_61 ?_
        refine z_alen hx hb hK odb rfl d_V_numberOrder_64 ?_
        refine va_mmin hx hb (hml.trans hl.1.symm) hown (ht _ q456) (ht _ q136) (ht _ q7) (ht _ q137) (Nat.le_of_ble_eq_true rfl) (Nat.le_of_ble_eq_true rfl) (Nat.le_of_ble_eq_true rfl) (Nat.le_of_ble_eq_true rfl) d_V_numberOrder_65 ?_
        have en : (nb y.natAbs + 15) / 16 = (nb z.natAbs + 15) / 16 := by omega
        rw [show ((if (nI ((nb y.natAbs + 15) / 16)) < (nI ((nb z.natAbs + 15) / 16)) then (nI ((nb y.natAbs + 15) / 16)) else (nI ((nb z.natAbs + 15) / 16))) : Int32) = nI ((nb z.natAbs + 15) / 16) by rw [en]; exact ite_self _]
        obtain ⟨nd, hnd⟩ : ∃ q, q = (nb z.natAbs + 15) / 16 := ⟨_, rfl⟩
        have hn1 : nb z.natAbs ≤ 16 * nd := by omega
        have hn2 : nb y.natAbs ≤ 16 * nd := by omega
        refine lv_iconst (v := 1) hx hb d_V_numberOrder_68 (by decide) ?_
        refine lv_isub hx hb d_V_numberOrder_69 ?_
        refine lv_istore_n (lv' := [(3, .int ((nI ((nb z.natAbs + 15) / 16)) - 1)), (2, .int (-1)), (0, .ref a), (1, .ref b)]) hx hb d_V_numberOrder_70 rfl hl (by decide) rfl (fun ls hl => ?_)
        rw [← hnd] at hl
        have loop4 : ∀ (n719 : Nat) (q : Nat), (q ≤ nd) → (∀ k, q ≤ k → k < nd → z.natAbs / 65536 ^ k % 65536 = y.natAbs / 65536 ^ k % 65536) → q < n719 → ∀ (ls : Array Slot), lv_has ls 4 [(3, .int (nI q - 1)), (2, .int (-1)), (0, .ref a), (1, .ref b)] → W p l e (headSpec w_V_numberOrder ({ frames := 1, cells := 0, slots := 0, locals := 21 })).room s m [.ref a, .ref b].toArray below meth c s.heap [] 0 0 (MQ below (z_R (fun v => v = .int (icmp z y))) [.ref a, .ref b].toArray s 0 0 (fun _ => False)) (F0 m 71 ls []) := by
          intro n719
          induction n719 with
          | zero =>
            intro q hq hqe h719
            exact absurd h719 (Nat.not_lt_zero _)
          | succ n719 ih71 =>
            intro q hq hqe h719  ls hl
            cases q with
            | zero =>
              have hl : lv_has ls 4 [(3, .int (-1)), (2, .int (-1)), (0, .ref a), (1, .ref b)] := hl
              refine lv_iload_n hx hb d_V_numberOrder_71 rfl (lv_at hl 0 rfl) ?_
              refine lv_if_lt (tgt := 118) hx hb d_V_numberOrder_72 (by decide) (fun _ => ?_) (fun c5 => absurd c5 (by decide))
              refine lv_iconst (v := 0) hx hb d_V_numberOrder_118 (by decide) ?_
              exact z_iretR hx hb hr hlocks d_V_numberOrder_119 (by rw [show z = y by have := dg_same hn1 hn2 hqe; omega, ic_0])
            | succ q =>
              rw [nI_prd] at hl
              have hmz : z.natAbs / 65536 ^ q % 65536 < 65536 := Nat.mod_lt _ (by decide)
              have hmy : y.natAbs / 65536 ^ q % 65536 < 65536 := Nat.mod_lt _ (by decide)
              refine lv_iload_n hx hb d_V_numberOrder_71 rfl (lv_at hl 0 rfl) ?_
              refine lv_if_lt (tgt := 118) hx hb d_V_numberOrder_72 (by decide) (fun c6 => absurd c6 (nI_pos (by omega))) (fun c6 => ?_)
              refine lv_aload_n hx hb d_V_numberOrder_75 rfl (lv_at hl 2 rfl) ?_
              refine va_get (D := D) (ci := 2) (v := .ref da) (C := "ValueTrees$Whole") (T := T_Whole) (N := 5) hx hb ht in_Whole hown hK.1 (z_1 oa) 0 rfl rfl 4 (by decide) (ht _ q229) (fun _ h9 => h9) rfl d_V_numberOrder_76 ?_
              refine lv_iload_n hx hb d_V_numberOrder_79 rfl (lv_at hl 0 rfl) ?_
              refine z_iald hx hb hK oda q rfl (by omega) (by omega) d_V_numberOrder_80 ?_
              refine lv_aload_n hx hb d_V_numberOrder_81 rfl (lv_at hl 3 rfl) ?_
              refine va_get (D := D) (ci := 2) (v := .ref db) (C := "ValueTrees$Whole") (T := T_Whole) (N := 5) hx hb ht in_Whole hown hK.1 (z_1 ob) 0 rfl rfl 4 (by decide) (ht _ q229) (fun _ h9 => h9) rfl d_V_numberOrder_82 ?_
              refine lv_iload_n hx hb d_V_numberOrder_85 rfl (lv_at hl 0 rfl) ?_
              refine z_iald hx hb hK odb q rfl (by omega) (by omega) d_V_numberOrder_86 ?_
              refine lv_icmp_eq (tgt := 112) hx hb d_V_numberOrder_87 (by decide) (fun c7 => ?_) (fun c7 => ?_)
              · have nc7 : (z.natAbs / 65536 ^ q % 65536) = (y.natAbs / 65536 ^ q % 65536) := (nI_eq (a := (z.natAbs / 65536 ^ q % 65536)) (b := (y.natAbs / 65536 ^ q % 65536)) (by omega) (by omega)).mp c7
                refine lv_iinc (v := (nI q - 1)) (lv' := [(3, .int (nI q - 1)), (2, .int (-1)), (0, .ref a), (1, .ref b)]) hx hb d_V_numberOrder_112 hl (k := 0) rfl (i32_dec _) (by decide) rfl (fun ls hl => ?_)
                refine lv_goto (tgt := 71) hx hb d_V_numberOrder_115 (by decide) ?_
                exact ih71 q (by omega) (fun k h1 h2 => (Nat.eq_or_lt_of_le h1).elim (fun e9 => by rw [← e9]; exact nc7) (fun h9 => hqe k (by omega) h2)) (by omega)  ls (lv_sub hl [0, 1, 2, 3] rfl)
              · have nc7 : ¬ (z.natAbs / 65536 ^ q % 65536) = (y.natAbs / 65536 ^ q % 65536) := fun h9 => c7 ((nI_eq (a := (z.natAbs / 65536 ^ q % 65536)) (b := (y.natAbs / 65536 ^ q % 65536)) (by omega) (by omega)).mpr h9)
                refine lv_aload_n hx hb d_V_numberOrder_90 rfl (lv_at hl 2 rfl) ?_
                refine va_get (D := D) (ci := 2) (v := .ref da) (C := "ValueTrees$Whole") (T := T_Whole) (N := 5) hx hb ht in_Whole hown hK.1 (z_1 oa) 0 rfl rfl 4 (by decide) (ht _ q229) (fun _ h9 => h9) rfl d_V_numberOrder_91 ?_
                refine lv_iload_n hx hb d_V_numberOrder_94 rfl (lv_at hl 0 rfl) ?_
                refine z_iald hx hb hK oda q rfl (by omega) (by omega) d_V_numberOrder_95 ?_
                refine lv_aload_n hx hb d_V_numberOrder_96 rfl (lv_at hl 3 rfl) ?_
                refine va_get (D := D) (ci := 2) (v := .ref db) (C := "ValueTrees$Whole") (T := T_Whole) (N := 5) hx hb ht in_Whole hown hK.1 (z_1 ob) 0 rfl rfl 4 (by decide) (ht _ q229) (fun _ h9 => h9) rfl d_V_numberOrder_97 ?_
                refine lv_iload_n hx hb d_V_numberOrder_100 rfl (lv_at hl 0 rfl) ?_
                refine z_iald hx hb hK odb q rfl (by omega) (by omega) d_V_numberOrder_101 ?_
                refine lv_icmp_le (tgt := 109) hx hb d_V_numberOrder_102 (by decide) (fun c8 => ?_) (fun c8 => ?_)
                · have nc8 : (z.natAbs / 65536 ^ q % 65536) ≤ (y.natAbs / 65536 ^ q % 65536) := (nI_leI (a := (z.natAbs / 65536 ^ q % 65536)) (b := (y.natAbs / 65536 ^ q % 65536)) (by omega) (by omega)).mp c8
                  refine lv_iload_n hx hb d_V_numberOrder_109 rfl (lv_at hl 1 rfl) ?_
                  refine lv_ineg hx hb d_V_numberOrder_110 ?_
                  exact z_iretR hx hb hr hlocks d_V_numberOrder_111 (by rw [ic_nn hz9 hy9 (dg_less (i := q) hn1 hn2 (by omega) (fun k h1 h2 => hqe k (by omega) h2) (by omega))]; try rfl)
                · have nc8 : ¬ (z.natAbs / 65536 ^ q % 65536) ≤ (y.natAbs / 65536 ^ q % 65536) := fun h9 => c8 ((nI_leI (a := (z.natAbs / 65536 ^ q % 65536)) (b := (y.natAbs / 65536 ^ q % 65536)) (by omega) (by omega)).mpr h9)
                  refine lv_iload_n hx hb d_V_numberOrder_105 rfl (lv_at hl 1 rfl) ?_
                  refine lv_goto (tgt := 111) hx hb d_V_numberOrder_106 (by decide) ?_
                  exact z_iretR hx hb hr hlocks d_V_numberOrder_111 (by rw [ic_np hz9 hy9 (dg_less (i := q) hn2 hn1 (by omega) (fun k h1 h2 => (hqe k (by omega) h2).symm) (by omega))]; try rfl)
        exact loop4 (nd + 1) nd (Nat.le_refl _) (fun k h1 h2 => absurd h2 (by omega)) (by omega)  ls (lv_sub hl [0, 1, 2, 3] rfl)
      · have nc3 : ¬ (nb z.natAbs) = (nb y.natAbs) := fun h9 => c3 ((nI_eq (a := (nb z.natAbs)) (b := (nb y.natAbs)) (by omega) (by omega)).mpr h9)
        refine lv_aload_n hx hb d_V_numberOrder_37 rfl (lv_at hl 1 rfl) ?_
        refine va_get (D := D) (ci := 2) (v := .int (nI (nb z.natAbs))) (C := "ValueTrees$Whole") (T := T_Whole) (N := 5) hx hb ht in_Whole hown hK.1 (z_1 oa) 0 rfl rfl 3 (by decide) (ht _ q227) (fun _ h9 => h9) rfl d_V_numberOrder_38 ?_
        refine lv_aload_n hx hb d_V_numberOrder_41 rfl (lv_at hl 2 rfl) ?_
        refine va_get (D := D) (ci := 2) (v := .int (nI (nb y.natAbs))) (C := "ValueTrees$Whole") (T := T_Whole) (N := 5) hx hb ht in_Whole hown hK.1 (z_1 ob) 0 rfl rfl 3 (by decide) (ht _ q227) (fun _ h9 => h9) rfl d_V_numberOrder_42 ?_
        refine lv_icmp_le (tgt := 52) hx hb d_V_numberOrder_45 (by decide) (fun c9 => ?_) (fun c9 => ?_)
        · have nc9 : (nb z.natAbs) ≤ (nb y.natAbs) := (nI_leI (a := (nb z.natAbs)) (b := (nb y.natAbs)) (by omega) (by omega)).mp c9
          refine lv_iload_n hx hb d_V_numberOrder_52 rfl (lv_at hl 0 rfl) ?_
          refine lv_ineg hx hb d_V_numberOrder_53 ?_
          exact z_iretR hx hb hr hlocks d_V_numberOrder_54 (by rw [ic_nn hz9 hy9 (nb_less (by omega))]; try rfl)
        · have nc9 : ¬ (nb z.natAbs) ≤ (nb y.natAbs) := fun h9 => c9 ((nI_leI (a := (nb z.natAbs)) (b := (nb y.natAbs)) (by omega) (by omega)).mpr h9)
          refine lv_iload_n hx hb d_V_numberOrder_48 rfl (lv_at hl 0 rfl) ?_
          refine lv_goto (tgt := 54) hx hb d_V_numberOrder_49 (by decide) ?_
          exact z_iretR hx hb hr hlocks d_V_numberOrder_54 (by rw [ic_np hz9 hy9 (nb_less (by omega))]; try rfl)
    · rw [if_neg hy9] at ob
      refine lv_aload_n hx hb d_V_numberOrder_0 rfl (lv_at hl 0 rfl) ?_
      refine va_get (D := D) (ci := 2) (v := .int 1) (C := "ValueTrees$Whole") (T := T_Whole) (N := 5) hx hb ht in_Whole hown hK.1 (z_1 oa) 0 rfl rfl 2 (by decide) (ht _ q225) (fun _ h9 => h9) rfl d_V_numberOrder_1 ?_
      refine lv_if_eq (tgt := 11) hx hb d_V_numberOrder_4 (by decide) (fun c10 => absurd c10 (by decide)) (fun _ => ?_)
      refine lv_iconst (v := (-1)) hx hb d_V_numberOrder_7 (by decide) ?_
      refine lv_goto (tgt := 12) hx hb d_V_numberOrder_8 (by decide) ?_
      refine lv_istore_n (lv' := [(2, .int (-1)), (0, .ref a), (1, .ref b)]) hx hb d_V_numberOrder_12 rfl hl (by decide) rfl (fun ls hl => ?_)
      refine lv_aload_n hx hb d_V_numberOrder_13 rfl (lv_at hl 1 rfl) ?_
      refine va_get (D := D) (ci := 2) (v := .int 1) (C := "ValueTrees$Whole") (T := T_Whole) (N := 5) hx hb ht in_Whole hown hK.1 (z_1 oa) 0 rfl rfl 2 (by decide) (ht _ q225) (fun _ h9 => h9) rfl d_V_numberOrder_14 ?_
      refine lv_aload_n hx hb d_V_numberOrder_17 rfl (lv_at hl 2 rfl) ?_
      refine va_get (D := D) (ci := 2) (v := .int 0) (C := "ValueTrees$Whole") (T := T_Whole) (N := 5) hx hb ht in_Whole hown hK.1 (z_1 ob) 0 rfl rfl 2 (by decide) (ht _ q225) (fun _ h9 => h9) rfl d_V_numberOrder_18 ?_
      refine lv_icmp_eq (tgt := 26) hx hb d_V_numberOrder_21 (by decide) (fun c11 => absurd c11 (by decide)) (fun _ => ?_)
      refine lv_iload_n hx hb d_V_numberOrder_24 rfl (lv_at hl 0 rfl) ?_
      exact z_iretR hx hb hr hlocks d_V_numberOrder_25 (by rw [ic_lt (by omega)])
  · rw [if_neg hz9] at oa
    by_cases hy9 : y < 0
    · rw [if_pos hy9] at ob
      refine lv_aload_n hx hb d_V_numberOrder_0 rfl (lv_at hl 0 rfl) ?_
      refine va_get (D := D) (ci := 2) (v := .int 0) (C := "ValueTrees$Whole") (T := T_Whole) (N := 5) hx hb ht in_Whole hown hK.1 (z_1 oa) 0 rfl rfl 2 (by decide) (ht _ q225) (fun _ h9 => h9) rfl d_V_numberOrder_1 ?_
      refine lv_if_eq (tgt := 11) hx hb d_V_numberOrder_4 (by decide) (fun _ => ?_) (fun c12 => absurd c12 (by decide))
      refine lv_iconst (v := 1) hx hb d_V_numberOrder_11 (by decide) ?_
      refine lv_istore_n (lv' := [(2, .int 1), (0, .ref a), (1, .ref b)]) hx hb d_V_numberOrder_12 rfl hl (by decide) rfl (fun ls hl => ?_)
      refine lv_aload_n hx hb d_V_numberOrder_13 rfl (lv_at hl 1 rfl) ?_
      refine va_get (D := D) (ci := 2) (v := .int 0) (C := "ValueTrees$Whole") (T := T_Whole) (N := 5) hx hb ht in_Whole hown hK.1 (z_1 oa) 0 rfl rfl 2 (by decide) (ht _ q225) (fun _ h9 => h9) rfl d_V_numberOrder_14 ?_
      refine lv_aload_n hx hb d_V_numberOrder_17 rfl (lv_at hl 2 rfl) ?_
      refine va_get (D := D) (ci := 2) (v := .int 1) (C := "ValueTrees$Whole") (T := T_Whole) (N := 5) hx hb ht in_Whole hown hK.1 (z_1 ob) 0 rfl rfl 2 (by decide) (ht _ q225) (fun _ h9 => h9) rfl d_V_numberOrder_18 ?_
      refine lv_icmp_eq (tgt := 26) hx hb d_V_numberOrder_21 (by decide) (fun c13 => absurd c13 (by decide)) (fun _ => ?_)
      refine lv_iload_n hx hb d_V_numberOrder_24 rfl (lv_at hl 0 rfl) ?_
      exact z_iretR hx hb hr hlocks d_V_numberOrder_25 (by rw [ic_gt (by omega)])
    · rw [if_neg hy9] at ob
      refine lv_aload_n hx hb d_V_numberOrder_0 rfl (lv_at hl 0 rfl) ?_
      refine va_get (D := D) (ci := 2) (v := .int 0) (C := "ValueTrees$Whole") (T := T_Whole) (N := 5) hx hb ht in_Whole hown hK.1 (z_1 oa) 0 rfl rfl 2 (by decide) (ht _ q225) (fun _ h9 => h9) rfl d_V_numberOrder_1 ?_
      refine lv_if_eq (tgt := 11) hx hb d_V_numberOrder_4 (by decide) (fun _ => ?_) (fun c14 => absurd c14 (by decide))
      refine lv_iconst (v := 1) hx hb d_V_numberOrder_11 (by decide) ?_
      refine lv_istore_n (lv' := [(2, .int 1), (0, .ref a), (1, .ref b)]) hx hb d_V_numberOrder_12 rfl hl (by decide) rfl (fun ls hl => ?_)
      refine lv_aload_n hx hb d_V_numberOrder_13 rfl (lv_at hl 1 rfl) ?_
      refine va_get (D := D) (ci := 2) (v := .int 0) (C := "ValueTrees$Whole") (T := T_Whole) (N := 5) hx hb ht in_Whole hown hK.1 (z_1 oa) 0 rfl rfl 2 (by decide) (ht _ q225) (fun _ h9 => h9) rfl d_V_numberOrder_14 ?_
      refine lv_aload_n hx hb d_V_numberOrder_17 rfl (lv_at hl 2 rfl) ?_
      refine va_get (D := D) (ci := 2) (v := .int 0) (C := "ValueTrees$Whole") (T := T_Whole) (N := 5) hx hb ht in_Whole hown hK.1 (z_1 ob) 0 rfl rfl 2 (by decide) (ht _ q225) (fun _ h9 => h9) rfl d_V_numberOrder_18 ?_
      refine lv_icmp_eq (tgt := 26) hx hb d_V_numberOrder_21 (by decide) (fun _ => ?_) (fun c15 => absurd c15 (by decide))
      refine lv_aload_n hx hb d_V_numberOrder_26 rfl (lv_at hl 1 rfl) ?_
      refine va_get (D := D) (ci := 2) (v := .int (nI (nb z.natAbs))) (C := "ValueTrees$Whole") (T := T_Whole) (N := 5) hx hb ht in_Whole hown hK.1 (z_1 oa) 0 rfl rfl 3 (by decide) (ht _ q227) (fun _ h9 => h9) rfl d_V_numberOrder_27 ?_
      refine lv_aload_n hx hb d_V_numberOrder_30 rfl (lv_at hl 2 rfl) ?_
      refine va_get (D := D) (ci := 2) (v := .int (nI (nb y.natAbs))) (C := "ValueTrees$Whole") (T := T_Whole) (N := 5) hx hb ht in_Whole hown hK.1 (z_1 ob) 0 rfl rfl 3 (by decide) (ht _ q227) (fun _ h9 => h9) rfl d_V_numberOrder_31 ?_
      refine lv_icmp_eq (tgt := 55) hx hb d_V_numberOrder_34 (by decide) (fun c16 => ?_) (fun c16 => ?_)
      · have nc16 : (nb z.natAbs) = (nb y.natAbs) := (nI_eq (a := (nb z.natAbs)) (b := (nb y.natAbs)) (by omega) (by omega)).mp c16
        refine lv_aload_n hx hb d_V_numberOrder_55 rfl (lv_at hl 1 rfl) ?_
        refine va_get (D := D) (ci := 2) (v := .ref da) (C := "ValueTrees$Whole") (T := T_Whole) (N := 5) hx hb ht in_Whole hown hK.1 (z_1 oa) 0 rfl rfl 4 (by decide) (ht _ q229) (fun _ h9 => h9) rfl d_V_numberOrder_56 ?_
        refine z_alen hx hb hK oda rfl d_V_numberOrder_59 ?_
        refine lv_aload_n hx hb d_V_numberOrder_60 rfl (lv_at hl 2 rfl) ?_
        refine va_get (D := D) (ci := 2) (v := .ref db) (C := "ValueTrees$Whole") (T := T_Whole) (N := 5) hx hb ht in_Whole hown hK.1 (z_1 ob) 0 rfl rfl 4 (by decide) (ht _ q229) (fun _ h9 => h9) rfl d_V_numberOrder_61 ?_
        refine z_alen hx hb hK odb rfl d_V_numberOrder_64 ?_
        refine va_mmin hx hb (hml.trans hl.1.symm) hown (ht _ q456) (ht _ q136) (ht _ q7) (ht _ q137) (Nat.le_of_ble_eq_true rfl) (Nat.le_of_ble_eq_true rfl) (Nat.le_of_ble_eq_true rfl) (Nat.le_of_ble_eq_true rfl) d_V_numberOrder_65 ?_
        have en : (nb y.natAbs + 15) / 16 = (nb z.natAbs + 15) / 16 := by omega
        rw [show ((if (nI ((nb y.natAbs + 15) / 16)) < (nI ((nb z.natAbs + 15) / 16)) then (nI ((nb y.natAbs + 15) / 16)) else (nI ((nb z.natAbs + 15) / 16))) : Int32) = nI ((nb z.natAbs + 15) / 16) by rw [en]; exact ite_self _]
        obtain ⟨nd, hnd⟩ : ∃ q, q = (nb z.natAbs + 15) / 16 := ⟨_, rfl⟩
        have hn1 : nb z.natAbs ≤ 16 * nd := by omega
        have hn2 : nb y.natAbs ≤ 16 * nd := by omega
        refine lv_iconst (v := 1) hx hb d_V_numberOrder_68 (by decide) ?_
        refine lv_isub hx hb d_V_numberOrder_69 ?_
        refine lv_istore_n (lv' := [(3, .int ((nI ((nb z.natAbs + 15) / 16)) - 1)), (2, .int 1), (0, .ref a), (1, .ref b)]) hx hb d_V_numberOrder_70 rfl hl (by decide) rfl (fun ls hl => ?_)
        rw [← hnd] at hl
        have loop17 : ∀ (n719 : Nat) (q : Nat), (q ≤ nd) → (∀ k, q ≤ k → k < nd → z.natAbs / 65536 ^ k % 65536 = y.natAbs / 65536 ^ k % 65536) → q < n719 → ∀ (ls : Array Slot), lv_has ls 4 [(3, .int (nI q - 1)), (2, .int 1), (0, .ref a), (1, .ref b)] → W p l e (headSpec w_V_numberOrder ({ frames := 1, cells := 0, slots := 0, locals := 21 })).room s m [.ref a, .ref b].toArray below meth c s.heap [] 0 0 (MQ below (z_R (fun v => v = .int (icmp z y))) [.ref a, .ref b].toArray s 0 0 (fun _ => False)) (F0 m 71 ls []) := by
          intro n719
          induction n719 with
          | zero =>
            intro q hq hqe h719
            exact absurd h719 (Nat.not_lt_zero _)
          | succ n719 ih71 =>
            intro q hq hqe h719  ls hl
            cases q with
            | zero =>
              have hl : lv_has ls 4 [(3, .int (-1)), (2, .int 1), (0, .ref a), (1, .ref b)] := hl
              refine lv_iload_n hx hb d_V_numberOrder_71 rfl (lv_at hl 0 rfl) ?_
              refine lv_if_lt (tgt := 118) hx hb d_V_numberOrder_72 (by decide) (fun _ => ?_) (fun c18 => absurd c18 (by decide))
              refine lv_iconst (v := 0) hx hb d_V_numberOrder_118 (by decide) ?_
              exact z_iretR hx hb hr hlocks d_V_numberOrder_119 (by rw [show z = y by have := dg_same hn1 hn2 hqe; omega, ic_0])
            | succ q =>
              rw [nI_prd] at hl
              have hmz : z.natAbs / 65536 ^ q % 65536 < 65536 := Nat.mod_lt _ (by decide)
              have hmy : y.natAbs / 65536 ^ q % 65536 < 65536 := Nat.mod_lt _ (by decide)
              refine lv_iload_n hx hb d_V_numberOrder_71 rfl (lv_at hl 0 rfl) ?_
              refine lv_if_lt (tgt := 118) hx hb d_V_numberOrder_72 (by decide) (fun c19 => absurd c19 (nI_pos (by omega))) (fun c19 => ?_)
              refine lv_aload_n hx hb d_V_numberOrder_75 rfl (lv_at hl 2 rfl) ?_
              refine va_get (D := D) (ci := 2) (v := .ref da) (C := "ValueTrees$Whole") (T := T_Whole) (N := 5) hx hb ht in_Whole hown hK.1 (z_1 oa) 0 rfl rfl 4 (by decide) (ht _ q229) (fun _ h9 => h9) rfl d_V_numberOrder_76 ?_
              refine lv_iload_n hx hb d_V_numberOrder_79 rfl (lv_at hl 0 rfl) ?_
              refine z_iald hx hb hK oda q rfl (by omega) (by omega) d_V_numberOrder_80 ?_
              refine lv_aload_n hx hb d_V_numberOrder_81 rfl (lv_at hl 3 rfl) ?_
              refine va_get (D := D) (ci := 2) (v := .ref db) (C := "ValueTrees$Whole") (T := T_Whole) (N := 5) hx hb ht in_Whole hown hK.1 (z_1 ob) 0 rfl rfl 4 (by decide) (ht _ q229) (fun _ h9 => h9) rfl d_V_numberOrder_82 ?_
              refine lv_iload_n hx hb d_V_numberOrder_85 rfl (lv_at hl 0 rfl) ?_
              refine z_iald hx hb hK odb q rfl (by omega) (by omega) d_V_numberOrder_86 ?_
              refine lv_icmp_eq (tgt := 112) hx hb d_V_numberOrder_87 (by decide) (fun c20 => ?_) (fun c20 => ?_)
              · have nc20 : (z.natAbs / 65536 ^ q % 65536) = (y.natAbs / 65536 ^ q % 65536) := (nI_eq (a := (z.natAbs / 65536 ^ q % 65536)) (b := (y.natAbs / 65536 ^ q % 65536)) (by omega) (by omega)).mp c20
                refine lv_iinc (v := (nI q - 1)) (lv' := [(3, .int (nI q - 1)), (2, .int 1), (0, .ref a), (1, .ref b)]) hx hb d_V_numberOrder_112 hl (k := 0) rfl (i32_dec _) (by decide) rfl (fun ls hl => ?_)
                refine lv_goto (tgt := 71) hx hb d_V_numberOrder_115 (by decide) ?_
                exact ih71 q (by omega) (fun k h1 h2 => (Nat.eq_or_lt_of_le h1).elim (fun e9 => by rw [← e9]; exact nc20) (fun h9 => hqe k (by omega) h2)) (by omega)  ls (lv_sub hl [0, 1, 2, 3] rfl)
              · have nc20 : ¬ (z.natAbs / 65536 ^ q % 65536) = (y.natAbs / 65536 ^ q % 65536) := fun h9 => c20 ((nI_eq (a := (z.natAbs / 65536 ^ q % 65536)) (b := (y.natAbs / 65536 ^ q % 65536)) (by omega) (by omega)).mpr h9)
                refine lv_aload_n hx hb d_V_numberOrder_90 rfl (lv_at hl 2 rfl) ?_
                refine va_get (D := D) (ci := 2) (v := .ref da) (C := "ValueTrees$Whole") (T := T_Whole) (N := 5) hx hb ht in_Whole hown hK.1 (z_1 oa) 0 rfl rfl 4 (by decide) (ht _ q229) (fun _ h9 => h9) rfl d_V_numberOrder_91 ?_
                refine lv_iload_n hx hb d_V_numberOrder_94 rfl (lv_at hl 0 rfl) ?_
                refine z_iald hx hb hK oda q rfl (by omega) (by omega) d_V_numberOrder_95 ?_
                refine lv_aload_n hx hb d_V_numberOrder_96 rfl (lv_at hl 3 rfl) ?_
                refine va_get (D := D) (ci := 2) (v := .ref db) (C := "ValueTrees$Whole") (T := T_Whole) (N := 5) hx hb ht in_Whole hown hK.1 (z_1 ob) 0 rfl rfl 4 (by decide) (ht _ q229) (fun _ h9 => h9) rfl d_V_numberOrder_97 ?_
                refine lv_iload_n hx hb d_V_numberOrder_100 rfl (lv_at hl 0 rfl) ?_
                refine z_iald hx hb hK odb q rfl (by omega) (by omega) d_V_numberOrder_101 ?_
                refine lv_icmp_le (tgt := 109) hx hb d_V_numberOrder_102 (by decide) (fun c21 => ?_) (fun c21 => ?_)
                · have nc21 : (z.natAbs / 65536 ^ q % 65536) ≤ (y.natAbs / 65536 ^ q % 65536) := (nI_leI (a := (z.natAbs / 65536 ^ q % 65536)) (b := (y.natAbs / 65536 ^ q % 65536)) (by omega) (by omega)).mp c21
                  refine lv_iload_n hx hb d_V_numberOrder_109 rfl (lv_at hl 1 rfl) ?_
                  refine lv_ineg hx hb d_V_numberOrder_110 ?_
                  exact z_iretR hx hb hr hlocks d_V_numberOrder_111 (by rw [ic_pn hz9 hy9 (dg_less (i := q) hn1 hn2 (by omega) (fun k h1 h2 => hqe k (by omega) h2) (by omega))]; try rfl)
                · have nc21 : ¬ (z.natAbs / 65536 ^ q % 65536) ≤ (y.natAbs / 65536 ^ q % 65536) := fun h9 => c21 ((nI_leI (a := (z.natAbs / 65536 ^ q % 65536)) (b := (y.natAbs / 65536 ^ q % 65536)) (by omega) (by omega)).mpr h9)
                  refine lv_iload_n hx hb d_V_numberOrder_105 rfl (lv_at hl 1 rfl) ?_
                  refine lv_goto (tgt := 111) hx hb d_V_numberOrder_106 (by decide) ?_
                  exact z_iretR hx hb hr hlocks d_V_numberOrder_111 (by rw [ic_pp hz9 hy9 (dg_less (i := q) hn2 hn1 (by omega) (fun k h1 h2 => (hqe k (by omega) h2).symm) (by omega))]; try rfl)
        exact loop17 (nd + 1) nd (Nat.le_refl _) (fun k h1 h2 => absurd h2 (by omega)) (by omega)  ls (lv_sub hl [0, 1, 2, 3] rfl)
      · have nc16 : ¬ (nb z.natAbs) = (nb y.natAbs) := fun h9 => c16 ((nI_eq (a := (nb z.natAbs)) (b := (nb y.natAbs)) (by omega) (by omega)).mpr h9)
        refine lv_aload_n hx hb d_V_numberOrder_37 rfl (lv_at hl 1 rfl) ?_
        refine va_get (D := D) (ci := 2) (v := .int (nI (nb z.natAbs))) (C := "ValueTrees$Whole") (T := T_Whole) (N := 5) hx hb ht in_Whole hown hK.1 (z_1 oa) 0 rfl rfl 3 (by decide) (ht _ q227) (fun _ h9 => h9) rfl d_V_numberOrder_38 ?_
        refine lv_aload_n hx hb d_V_numberOrder_41 rfl (lv_at hl 2 rfl) ?_
        refine va_get (D := D) (ci := 2) (v := .int (nI (nb y.natAbs))) (C := "ValueTrees$Whole") (T := T_Whole) (N := 5) hx hb ht in_Whole hown hK.1 (z_1 ob) 0 rfl rfl 3 (by decide) (ht _ q227) (fun _ h9 => h9) rfl d_V_numberOrder_42 ?_
        refine lv_icmp_le (tgt := 52) hx hb d_V_numberOrder_45 (by decide) (fun c22 => ?_) (fun c22 => ?_)
        · have nc22 : (nb z.natAbs) ≤ (nb y.natAbs) := (nI_leI (a := (nb z.natAbs)) (b := (nb y.natAbs)) (by omega) (by omega)).mp c22
          refine lv_iload_n hx hb d_V_numberOrder_52 rfl (lv_at hl 0 rfl) ?_
          refine lv_ineg hx hb d_V_numberOrder_53 ?_
          exact z_iretR hx hb hr hlocks d_V_numberOrder_54 (by rw [ic_pn hz9 hy9 (nb_less (by omega))]; try rfl)
        · have nc22 : ¬ (nb z.natAbs) ≤ (nb y.natAbs) := fun h9 => c22 ((nI_leI (a := (nb z.natAbs)) (b := (nb y.natAbs)) (by omega) (by omega)).mpr h9)
          refine lv_iload_n hx hb d_V_numberOrder_48 rfl (lv_at hl 0 rfl) ?_
          refine lv_goto (tgt := 54) hx hb d_V_numberOrder_49 (by decide) ?_
          exact z_iretR hx hb hr hlocks d_V_numberOrder_54 (by rw [ic_pp hz9 hy9 (nb_less (by omega))]; try rfl)
abbrev b_V_rowOrder : ByteArray := prog_1_method_48_code
abbrev y_V_rowOrder : MethodName := ⟨"ValueTrees", "rowOrder", "(LValueTrees$Row;LValueTrees$Row;)I"⟩
abbrev w_V_rowOrder : List Cond := .code y_V_rowOrder b_V_rowOrder 4 (Option.some .int) :: gt
theorem hd_V_rowOrder : (y_V_rowOrder).cls ≠ "java/lang/invoke/MethodHandle" ∧ (y_V_rowOrder).cls ≠ "java/lang/invoke/VarHandle" ∧ (parseMethodDescriptor (y_V_rowOrder).desc).map (fun d => d.parameters.length) = some 2 := by decide +kernel
theorem d_V_rowOrder_0 : decode b_V_rowOrder 0 = .ok (.aload_n 0, 1) := by decide +kernel
theorem d_V_rowOrder_1 : decode b_V_rowOrder 1 = .ok (.getfield 215, 3) := by decide +kernel
theorem d_V_rowOrder_4 : decode b_V_rowOrder 4 = .ok (.aload_n 1, 1) := by decide +kernel
theorem d_V_rowOrder_5 : decode b_V_rowOrder 5 = .ok (.getfield 215, 3) := by decide +kernel
theorem d_V_rowOrder_8 : decode b_V_rowOrder 8 = .ok (.invokestatic 259, 3) := by decide +kernel
theorem d_V_rowOrder_11 : decode b_V_rowOrder 11 = .ok (.istore_n 2, 1) := by decide +kernel
theorem d_V_rowOrder_12 : decode b_V_rowOrder 12 = .ok (.iconst 0, 1) := by decide +kernel
theorem d_V_rowOrder_13 : decode b_V_rowOrder 13 = .ok (.istore_n 3, 1) := by decide +kernel
theorem d_V_rowOrder_14 : decode b_V_rowOrder 14 = .ok (.iload_n 3, 1) := by decide +kernel
theorem d_V_rowOrder_15 : decode b_V_rowOrder 15 = .ok (.iload_n 2, 1) := by decide +kernel
theorem d_V_rowOrder_16 : decode b_V_rowOrder 16 = .ok (.if_icmp .ge 36, 3) := by decide +kernel
theorem d_V_rowOrder_19 : decode b_V_rowOrder 19 = .ok (.aload_n 0, 1) := by decide +kernel
theorem d_V_rowOrder_20 : decode b_V_rowOrder 20 = .ok (.iload_n 3, 1) := by decide +kernel
theorem d_V_rowOrder_21 : decode b_V_rowOrder 21 = .ok (.invokevirtual 216, 3) := by decide +kernel
theorem d_V_rowOrder_24 : decode b_V_rowOrder 24 = .ok (.aload_n 1, 1) := by decide +kernel
theorem d_V_rowOrder_25 : decode b_V_rowOrder 25 = .ok (.iload_n 3, 1) := by decide +kernel
theorem d_V_rowOrder_26 : decode b_V_rowOrder 26 = .ok (.invokevirtual 216, 3) := by decide +kernel
theorem d_V_rowOrder_29 : decode b_V_rowOrder 29 = .ok (.if_icmp .eq 17, 3) := by decide +kernel
theorem d_V_rowOrder_32 : decode b_V_rowOrder 32 = .ok (.aload_n 0, 1) := by decide +kernel
theorem d_V_rowOrder_33 : decode b_V_rowOrder 33 = .ok (.iload_n 3, 1) := by decide +kernel
theorem d_V_rowOrder_34 : decode b_V_rowOrder 34 = .ok (.invokevirtual 216, 3) := by decide +kernel
theorem d_V_rowOrder_37 : decode b_V_rowOrder 37 = .ok (.aload_n 1, 1) := by decide +kernel
theorem d_V_rowOrder_38 : decode b_V_rowOrder 38 = .ok (.iload_n 3, 1) := by decide +kernel
theorem d_V_rowOrder_39 : decode b_V_rowOrder 39 = .ok (.invokevirtual 216, 3) := by decide +kernel
theorem d_V_rowOrder_42 : decode b_V_rowOrder 42 = .ok (.invokestatic 245, 3) := by decide +kernel
theorem d_V_rowOrder_45 : decode b_V_rowOrder 45 = .ok (.ireturn, 1) := by decide +kernel
theorem d_V_rowOrder_46 : decode b_V_rowOrder 46 = .ok (.iinc 3 1, 3) := by decide +kernel
theorem d_V_rowOrder_49 : decode b_V_rowOrder 49 = .ok (.goto (-35), 3) := by decide +kernel
theorem d_V_rowOrder_52 : decode b_V_rowOrder 52 = .ok (.aload_n 0, 1) := by decide +kernel
theorem d_V_rowOrder_53 : decode b_V_rowOrder 53 = .ok (.getfield 215, 3) := by decide +kernel
theorem d_V_rowOrder_56 : decode b_V_rowOrder 56 = .ok (.aload_n 1, 1) := by decide +kernel
theorem d_V_rowOrder_57 : decode b_V_rowOrder 57 = .ok (.getfield 215, 3) := by decide +kernel
theorem d_V_rowOrder_60 : decode b_V_rowOrder 60 = .ok (.invokestatic 245, 3) := by decide +kernel
theorem d_V_rowOrder_63 : decode b_V_rowOrder 63 = .ok (.ireturn, 1) := by decide +kernel
set_option maxHeartbeats 4000000 in
set_option maxRecDepth 100000 in
theorem c_V_rowOrder (l : Launch) (D : va_G) (dT : Nat → ClassId) (H : Heap) (Bq : Nat → Prop) (a b t u : Nat) (k j : Nat) (hra : rv D dT Bq H (.pow (.natCast k) t) a) (hrb : rv D dT Bq H (.pow (.natCast j) u) b) (hk : k % 16 ≤ 8) (hj : j % 16 ≤ 8) : Met l y_V_rowOrder w_V_rowOrder ({ frames := 1, cells := 0, slots := 0, locals := 21 }) (z_P D dT [.ref a, .ref b] H) (z_R (fun v => v = .int (lcmp (rser k) (rser j)))) 0 0 (fun _ => False) := by
  refine Met.ofW (cc := b_V_rowOrder) (maxL := 4) (ret := (Option.some .int)) (by decide) rfl ?_
  intro p e s m args below meth c s₁ B hml hv
  obtain ⟨rfl, rfl, hK⟩ := hv
  have hx := B.exec
  have hb := B.bytes
  have hr := B.returns
  have hts := atoms_spec (ws := w_V_rowOrder) B.pre
  have ht : ∀ w9 ∈ gt, w9.before [.ref a, .ref b].toArray s = true := fun w9 h => hts w9 (List.mem_cons_of_mem _ h)
  have hown : s.vm.findClass "ValueTrees" = some m.cls := findClass_of_methodNamed B.named
  have hlocks := B.notSynchronized
  have hl := lv_entry ([.ref a, .ref b]) (n := 4) (Nat.le_of_ble_eq_true rfl)
  rw [lg_entry_eq]
  generalize (lg_sl ([.ref a, .ref b]) ++ List.replicate (4 - (lg_sl ([.ref a, .ref b])).length) Slot.unset).toArray = ls at hl ⊢
  have hl : lv_has ls 4 [(0, .ref a), (1, .ref b)] := hl
  obtain ⟨x, oa, -, hxa⟩ := rv_row.mp hra
  obtain ⟨x2, ob, -, hxb⟩ := rv_row.mp hrb
  have hlk : (rser k).length = k % 16 := rser_len k
  have hlj : (rser j).length = j % 16 := rser_len j
  refine lv_aload_n hx hb d_V_rowOrder_0 rfl (lv_at hl 0 rfl) ?_
  refine va_get (D := D) (ci := 3) (v := .int (nI (k % 16))) (C := "ValueTrees$Row") (T := T_Row) (N := 4) hx hb ht in_Row hown hK.1 (z_1 oa) 0 rfl rfl 3 (by decide) (ht _ q291) (fun _ h9 => h9) rfl d_V_rowOrder_1 ?_
  refine lv_aload_n hx hb d_V_rowOrder_4 rfl (lv_at hl 1 rfl) ?_
  refine va_get (D := D) (ci := 3) (v := .int (nI (j % 16))) (C := "ValueTrees$Row") (T := T_Row) (N := 4) hx hb ht in_Row hown hK.1 (z_1 ob) 0 rfl rfl 3 (by decide) (ht _ q291) (fun _ h9 => h9) rfl d_V_rowOrder_5 ?_
  refine va_mmin hx hb (hml.trans hl.1.symm) hown (ht _ q456) (ht _ q136) (ht _ q7) (ht _ q137) (Nat.le_of_ble_eq_true rfl) (Nat.le_of_ble_eq_true rfl) (Nat.le_of_ble_eq_true rfl) (Nat.le_of_ble_eq_true rfl) d_V_rowOrder_8 ?_
  obtain ⟨mn, hmn, hm1, hm2, hm3⟩ : ∃ mn, (if (nI (j % 16)) < (nI (k % 16)) then (nI (j % 16)) else (nI (k % 16))) = nI mn ∧ mn ≤ k % 16 ∧ mn ≤ j % 16 ∧ (mn = k % 16 ∨ mn = j % 16) := by
    by_cases h9 : j % 16 < k % 16
    · exact ⟨j % 16, if_pos ((nI_ltI (by omega) (by omega)).mpr h9), by omega, by omega, Or.inr rfl⟩
    · exact ⟨k % 16, if_neg (fun h8 => h9 ((nI_ltI (by omega) (by omega)).mp h8)), by omega, by omega, Or.inl rfl⟩
  rw [hmn]
  refine lv_istore_n (lv' := [(2, .int (nI mn)), (0, .ref a), (1, .ref b)]) hx hb d_V_rowOrder_11 rfl hl (by decide) rfl (fun ls hl => ?_)
  refine lv_iconst (v := 0) hx hb d_V_rowOrder_12 (by decide) ?_
  refine lv_istore_n (lv' := [(3, .int 0), (2, .int (nI mn)), (0, .ref a), (1, .ref b)]) hx hb d_V_rowOrder_13 rfl hl (by decide) rfl (fun ls hl => ?_)
  have loop1 : ∀ (n149 : Nat) (i : Nat), (i ≤ mn) → (lcmp (rser k) (rser j) = lcmp ((rser k).drop i) ((rser j).drop i)) → mn - i < n149 → ∀ (ls : Array Slot), lv_has ls 4 [(3, .int (nI i)), (2, .int (nI mn)), (0, .ref a), (1, .ref b)] → W p l e (headSpec w_V_rowOrder ({ frames := 1, cells := 0, slots := 0, locals := 21 })).room s m [.ref a, .ref b].toArray below meth c s.heap [] 0 0 (MQ below (z_R (fun v => v = .int (lcmp (rser k) (rser j)))) [.ref a, .ref b].toArray s 0 0 (fun _ => False)) (F0 m 14 ls []) := by
    intro n149
    induction n149 with
    | zero =>
      intro i hi hie h149
      exact absurd h149 (Nat.not_lt_zero _)
    | succ n149 ih14 =>
      intro i hi hie h149  ls hl
      have hma : x.toUInt64.toNat / 256 ^ i % 256 < 256 := Nat.mod_lt _ (by decide)
      have hmb : x2.toUInt64.toNat / 256 ^ i % 256 < 256 := Nat.mod_lt _ (by decide)
      refine lv_iload_n hx hb d_V_rowOrder_14 rfl (lv_at hl 0 rfl) ?_
      refine lv_iload_n hx hb d_V_rowOrder_15 rfl (lv_at hl 1 rfl) ?_
      refine lv_icmp_ge (tgt := 52) hx hb d_V_rowOrder_16 (by decide) (fun c2 => ?_) (fun c2 => ?_)
      · have nc2 : mn ≤ i := (nI_leI (a := mn) (b := i) (by omega) (by omega)).mp c2
        refine lv_aload_n hx hb d_V_rowOrder_52 rfl (lv_at hl 2 rfl) ?_
        refine va_get (D := D) (ci := 3) (v := .int (nI (k % 16))) (C := "ValueTrees$Row") (T := T_Row) (N := 4) hx hb ht in_Row hown hK.1 (z_1 oa) 0 rfl rfl 3 (by decide) (ht _ q291) (fun _ h9 => h9) rfl d_V_rowOrder_53 ?_
        refine lv_aload_n hx hb d_V_rowOrder_56 rfl (lv_at hl 3 rfl) ?_
        refine va_get (D := D) (ci := 3) (v := .int (nI (j % 16))) (C := "ValueTrees$Row") (T := T_Row) (N := 4) hx hb ht in_Row hown hK.1 (z_1 ob) 0 rfl rfl 3 (by decide) (ht _ q291) (fun _ h9 => h9) rfl d_V_rowOrder_57 ?_
        refine z_callR (va_runS (As := [.int (nI (k % 16)), .int (nI (j % 16))]) (rest := []) ⟨hx, hb, hml, hown, hts⟩ (c_V_intOrder l D dT _ (nI (k % 16)) (nI (j % 16))) ⟨callB_of 2 hts (gI gd_up gd_c q449) rfl rfl rfl (ht _ q1) (ht _ q447) hd_V_intOrder ⟨Nat.le_of_ble_eq_true rfl, Nat.le_of_ble_eq_true rfl⟩, ht _ q448⟩ (z_preS hK) rfl rfl hl.1 rfl (lv_room (Nat.le_of_ble_eq_true rfl)) d_V_rowOrder_60 ⟨Nat.zero_le _, Nat.zero_le _⟩) (fun v4 hv3 => ?_)
        have hv3 : v4 = .int (sg (k % 16) (j % 16)) := by rw [← sg_nI (by omega) (by omega)]; exact hv3
        subst hv3
        exact z_iretR hx hb hr hlocks d_V_rowOrder_63 (by rw [hie, lcmp_end (by omega) (by omega) (by omega), hlk, hlj])
      · have nc2 : ¬ mn ≤ i := fun h9 => c2 ((nI_leI (a := mn) (b := i) (by omega) (by omega)).mpr h9)
        refine lv_aload_n hx hb d_V_rowOrder_19 rfl (lv_at hl 2 rfl) ?_
        refine lv_iload_n hx hb d_V_rowOrder_20 rfl (lv_at hl 0 rfl) ?_
        refine z_callR (va_runV (C := "ValueTrees$Row") (As := [.int (nI i)]) (rest := []) ⟨hx, hb, hml, hown, hts⟩ (c_Row_letter l D dT _ a (nI t) (wlen (.natCast k) t) (nI (k % 16)) x oa i (by omega)) ⟨callB_of 1 hts (gI gd_up gd_c q463) rfl rfl rfl (ht _ q15) (ht _ q460) hd_Row_letter ⟨Nat.le_of_ble_eq_true rfl, Nat.le_of_ble_eq_true rfl⟩, ht _ q461, ht _ q462⟩ (z_preV hK (va_recv hK.1 (z_1 oa) (ci := 3) (q0 := 0) rfl rfl)) rfl rfl hl.1 rfl (lv_room (Nat.le_of_ble_eq_true rfl)) d_V_rowOrder_21 ⟨Nat.zero_le _, Nat.zero_le _⟩) (fun v6 hv5 => ?_)
        subst hv5
        refine lv_aload_n hx hb d_V_rowOrder_24 rfl (lv_at hl 3 rfl) ?_
        refine lv_iload_n hx hb d_V_rowOrder_25 rfl (lv_at hl 0 rfl) ?_
        refine z_callR (va_runV (C := "ValueTrees$Row") (As := [.int (nI i)]) (rest := [.int (nI (x.toUInt64.toNat / 256 ^ i % 256))]) ⟨hx, hb, hml, hown, hts⟩ (c_Row_letter l D dT _ b (nI u) (wlen (.natCast j) u) (nI (j % 16)) x2 ob i (by omega)) ⟨callB_of 1 hts (gI gd_up gd_c q463) rfl rfl rfl (ht _ q15) (ht _ q460) hd_Row_letter ⟨Nat.le_of_ble_eq_true rfl, Nat.le_of_ble_eq_true rfl⟩, ht _ q461, ht _ q462⟩ (z_preV hK (va_recv hK.1 (z_1 ob) (ci := 3) (q0 := 0) rfl rfl)) rfl rfl hl.1 rfl (lv_room (Nat.le_of_ble_eq_true rfl)) d_V_rowOrder_26 ⟨Nat.zero_le _, Nat.zero_le _⟩) (fun v8 hv7 => ?_)
        subst hv7
        refine lv_icmp_eq (tgt := 46) hx hb d_V_rowOrder_29 (by decide) (fun c9 => ?_) (fun c9 => ?_)
        · have nc9 : (x.toUInt64.toNat / 256 ^ i % 256) = (x2.toUInt64.toNat / 256 ^ i % 256) := (nI_eq (a := (x.toUInt64.toNat / 256 ^ i % 256)) (b := (x2.toUInt64.toNat / 256 ^ i % 256)) (by omega) (by omega)).mp c9
          refine lv_iinc (v := (nI (i + 1))) (lv' := [(3, .int (nI (i + 1))), (2, .int (nI mn)), (0, .ref a), (1, .ref b)]) hx hb d_V_rowOrder_46 hl (k := 0) rfl (nI_1 i) (by decide) rfl (fun ls hl => ?_)
          refine lv_goto (tgt := 14) hx hb d_V_rowOrder_49 (by decide) ?_
          exact ih14 (i + 1) (by omega) (by rw [hie, lcmp_step (by omega) (by omega), row_bt hxa hk (by omega), row_bt hxb hj (by omega), if_pos nc9]) (by omega)  ls (lv_sub hl [0, 1, 2, 3] rfl)
        · have nc9 : ¬ (x.toUInt64.toNat / 256 ^ i % 256) = (x2.toUInt64.toNat / 256 ^ i % 256) := fun h9 => c9 ((nI_eq (a := (x.toUInt64.toNat / 256 ^ i % 256)) (b := (x2.toUInt64.toNat / 256 ^ i % 256)) (by omega) (by omega)).mpr h9)
          refine lv_aload_n hx hb d_V_rowOrder_32 rfl (lv_at hl 2 rfl) ?_
          refine lv_iload_n hx hb d_V_rowOrder_33 rfl (lv_at hl 0 rfl) ?_
          refine z_callR (va_runV (C := "ValueTrees$Row") (As := [.int (nI i)]) (rest := []) ⟨hx, hb, hml, hown, hts⟩ (c_Row_letter l D dT _ a (nI t) (wlen (.natCast k) t) (nI (k % 16)) x oa i (by omega)) ⟨callB_of 1 hts (gI gd_up gd_c q463) rfl rfl rfl (ht _ q15) (ht _ q460) hd_Row_letter ⟨Nat.le_of_ble_eq_true rfl, Nat.le_of_ble_eq_true rfl⟩, ht _ q461, ht _ q462⟩ (z_preV hK (va_recv hK.1 (z_1 oa) (ci := 3) (q0 := 0) rfl rfl)) rfl rfl hl.1 rfl (lv_room (Nat.le_of_ble_eq_true rfl)) d_V_rowOrder_34 ⟨Nat.zero_le _, Nat.zero_le _⟩) (fun v11 hv10 => ?_)
          subst hv10
          refine lv_aload_n hx hb d_V_rowOrder_37 rfl (lv_at hl 3 rfl) ?_
          refine lv_iload_n hx hb d_V_rowOrder_38 rfl (lv_at hl 0 rfl) ?_
          refine z_callR (va_runV (C := "ValueTrees$Row") (As := [.int (nI i)]) (rest := [.int (nI (x.toUInt64.toNat / 256 ^ i % 256))]) ⟨hx, hb, hml, hown, hts⟩ (c_Row_letter l D dT _ b (nI u) (wlen (.natCast j) u) (nI (j % 16)) x2 ob i (by omega)) ⟨callB_of 1 hts (gI gd_up gd_c q463) rfl rfl rfl (ht _ q15) (ht _ q460) hd_Row_letter ⟨Nat.le_of_ble_eq_true rfl, Nat.le_of_ble_eq_true rfl⟩, ht _ q461, ht _ q462⟩ (z_preV hK (va_recv hK.1 (z_1 ob) (ci := 3) (q0 := 0) rfl rfl)) rfl rfl hl.1 rfl (lv_room (Nat.le_of_ble_eq_true rfl)) d_V_rowOrder_39 ⟨Nat.zero_le _, Nat.zero_le _⟩) (fun v13 hv12 => ?_)
          subst hv12
          refine z_callR (va_runS (As := [.int (nI (x.toUInt64.toNat / 256 ^ i % 256)), .int (nI (x2.toUInt64.toNat / 256 ^ i % 256))]) (rest := []) ⟨hx, hb, hml, hown, hts⟩ (c_V_intOrder l D dT _ (nI (x.toUInt64.toNat / 256 ^ i % 256)) (nI (x2.toUInt64.toNat / 256 ^ i % 256))) ⟨callB_of 2 hts (gI gd_up gd_c q449) rfl rfl rfl (ht _ q1) (ht _ q447) hd_V_intOrder ⟨Nat.le_of_ble_eq_true rfl, Nat.le_of_ble_eq_true rfl⟩, ht _ q448⟩ (z_preS hK) rfl rfl hl.1 rfl (lv_room (Nat.le_of_ble_eq_true rfl)) d_V_rowOrder_42 ⟨Nat.zero_le _, Nat.zero_le _⟩) (fun v15 hv14 => ?_)
          have hv14 : v15 = .int (sg (x.toUInt64.toNat / 256 ^ i % 256) (x2.toUInt64.toNat / 256 ^ i % 256)) := by rw [← sg_nI (by omega) (by omega)]; exact hv14
          subst hv14
          exact z_iretR hx hb hr hlocks d_V_rowOrder_45 (by rw [hie, lcmp_step (by omega) (by omega), row_bt hxa hk (by omega), row_bt hxb hj (by omega), if_neg nc9])
  exact loop1 (mn + 1) 0 (Nat.zero_le _) rfl (by omega)  ls (lv_sub hl [0, 1, 2, 3] rfl)
abbrev b_V_leafOrder : ByteArray := prog_1_method_46_code
abbrev y_V_leafOrder : MethodName := ⟨"ValueTrees", "leafOrder", "(LValueTrees$Value;LValueTrees$Value;)I"⟩
abbrev w_V_leafOrder : List Cond := .code y_V_leafOrder b_V_leafOrder 4 (Option.some .int) :: gt
theorem hd_V_leafOrder : (y_V_leafOrder).cls ≠ "java/lang/invoke/MethodHandle" ∧ (y_V_leafOrder).cls ≠ "java/lang/invoke/VarHandle" ∧ (parseMethodDescriptor (y_V_leafOrder).desc).map (fun d => d.parameters.length) = some 2 := by decide +kernel
theorem d_V_leafOrder_0 : decode b_V_leafOrder 0 = .ok (.aload_n 0, 1) := by decide +kernel
theorem d_V_leafOrder_1 : decode b_V_leafOrder 1 = .ok (.instanceof 64, 3) := by decide +kernel
theorem d_V_leafOrder_4 : decode b_V_leafOrder 4 = .ok (.ifCond .eq 26, 3) := by decide +kernel
theorem d_V_leafOrder_7 : decode b_V_leafOrder 7 = .ok (.aload_n 0, 1) := by decide +kernel
theorem d_V_leafOrder_8 : decode b_V_leafOrder 8 = .ok (.checkcast 64, 3) := by decide +kernel
theorem d_V_leafOrder_11 : decode b_V_leafOrder 11 = .ok (.astore_n 2, 1) := by decide +kernel
theorem d_V_leafOrder_12 : decode b_V_leafOrder 12 = .ok (.aload_n 1, 1) := by decide +kernel
theorem d_V_leafOrder_13 : decode b_V_leafOrder 13 = .ok (.instanceof 64, 3) := by decide +kernel
theorem d_V_leafOrder_16 : decode b_V_leafOrder 16 = .ok (.ifCond .eq 14, 3) := by decide +kernel
theorem d_V_leafOrder_19 : decode b_V_leafOrder 19 = .ok (.aload_n 1, 1) := by decide +kernel
theorem d_V_leafOrder_20 : decode b_V_leafOrder 20 = .ok (.checkcast 64, 3) := by decide +kernel
theorem d_V_leafOrder_23 : decode b_V_leafOrder 23 = .ok (.astore_n 3, 1) := by decide +kernel
theorem d_V_leafOrder_24 : decode b_V_leafOrder 24 = .ok (.aload_n 2, 1) := by decide +kernel
theorem d_V_leafOrder_25 : decode b_V_leafOrder 25 = .ok (.aload_n 3, 1) := by decide +kernel
theorem d_V_leafOrder_26 : decode b_V_leafOrder 26 = .ok (.invokestatic 251, 3) := by decide +kernel
theorem d_V_leafOrder_29 : decode b_V_leafOrder 29 = .ok (.ireturn, 1) := by decide +kernel
theorem d_V_leafOrder_30 : decode b_V_leafOrder 30 = .ok (.aload_n 0, 1) := by decide +kernel
theorem d_V_leafOrder_31 : decode b_V_leafOrder 31 = .ok (.instanceof 99, 3) := by decide +kernel
theorem d_V_leafOrder_34 : decode b_V_leafOrder 34 = .ok (.ifCond .eq 26, 3) := by decide +kernel
theorem d_V_leafOrder_37 : decode b_V_leafOrder 37 = .ok (.aload_n 0, 1) := by decide +kernel
theorem d_V_leafOrder_38 : decode b_V_leafOrder 38 = .ok (.checkcast 99, 3) := by decide +kernel
theorem d_V_leafOrder_41 : decode b_V_leafOrder 41 = .ok (.astore_n 2, 1) := by decide +kernel
theorem d_V_leafOrder_42 : decode b_V_leafOrder 42 = .ok (.aload_n 1, 1) := by decide +kernel
theorem d_V_leafOrder_43 : decode b_V_leafOrder 43 = .ok (.instanceof 99, 3) := by decide +kernel
theorem d_V_leafOrder_46 : decode b_V_leafOrder 46 = .ok (.ifCond .eq 14, 3) := by decide +kernel
theorem d_V_leafOrder_49 : decode b_V_leafOrder 49 = .ok (.aload_n 1, 1) := by decide +kernel
theorem d_V_leafOrder_50 : decode b_V_leafOrder 50 = .ok (.checkcast 99, 3) := by decide +kernel
theorem d_V_leafOrder_53 : decode b_V_leafOrder 53 = .ok (.astore_n 3, 1) := by decide +kernel
theorem d_V_leafOrder_54 : decode b_V_leafOrder 54 = .ok (.aload_n 2, 1) := by decide +kernel
theorem d_V_leafOrder_55 : decode b_V_leafOrder 55 = .ok (.aload_n 3, 1) := by decide +kernel
theorem d_V_leafOrder_56 : decode b_V_leafOrder 56 = .ok (.invokestatic 255, 3) := by decide +kernel
theorem d_V_leafOrder_59 : decode b_V_leafOrder 59 = .ok (.ireturn, 1) := by decide +kernel
theorem d_V_leafOrder_60 : decode b_V_leafOrder 60 = .ok (.iconst 0, 1) := by decide +kernel
theorem d_V_leafOrder_61 : decode b_V_leafOrder 61 = .ok (.ireturn, 1) := by decide +kernel
set_option maxHeartbeats 4000000 in
set_option maxRecDepth 100000 in
theorem c_V_leaf_n (l : Launch) (D : va_G) (dT : Nat → ClassId) (H : Heap) (Bq : Nat → Prop) (a b t u : Nat) (z y : Int) (hra : rv D dT Bq H (.pow (.num z) t) a) (hrb : rv D dT Bq H (.pow (.num y) u) b) (hz : z.natAbs < 2 ^ 1024) (hy : y.natAbs < 2 ^ 1024) : Met l y_V_leafOrder w_V_leafOrder ({ frames := 2, cells := 0, slots := 0, locals := 44 }) (z_P D dT [.ref a, .ref b] H) (z_R (fun v => v = .int (icmp z y))) 0 0 (fun _ => False) := by
  obtain ⟨da, oa, -, oda, -⟩ := rv_num.mp hra
  obtain ⟨db, ob, -, odb, -⟩ := rv_num.mp hrb
  refine Met.ofW (cc := b_V_leafOrder) (maxL := 4) (ret := (Option.some .int)) (by decide) rfl ?_
  intro p e s m args below meth c s₁ B hml hv
  obtain ⟨rfl, rfl, hK⟩ := hv
  have hx := B.exec
  have hb := B.bytes
  have hr := B.returns
  have hts := atoms_spec (ws := w_V_leafOrder) B.pre
  have ht : ∀ w9 ∈ gt, w9.before [.ref a, .ref b].toArray s = true := fun w9 h => hts w9 (List.mem_cons_of_mem _ h)
  have hown : s.vm.findClass "ValueTrees" = some m.cls := findClass_of_methodNamed B.named
  have hlocks := B.notSynchronized
  have hl := lv_entry ([.ref a, .ref b]) (n := 4) (Nat.le_of_ble_eq_true rfl)
  rw [lg_entry_eq]
  generalize (lg_sl ([.ref a, .ref b]) ++ List.replicate (4 - (lg_sl ([.ref a, .ref b])).length) Slot.unset).toArray = ls at hl ⊢
  have hl : lv_has ls 4 [(0, .ref a), (1, .ref b)] := hl
  refine lv_aload_n hx hb d_V_leafOrder_0 rfl (lv_at hl 0 rfl) ?_
  refine va_instE hx hb hown (ht _ q205) (z_recv hK oa rfl) d_V_leafOrder_1 ?_
  refine lv_if_eq (tgt := 30) hx hb d_V_leafOrder_4 (by decide) (fun c1 => absurd c1 (by decide)) (fun _ => ?_)
  refine lv_aload_n hx hb d_V_leafOrder_7 rfl (lv_at hl 0 rfl) ?_
  refine va_castE hx hb hown (ht _ q205) (z_recv hK oa rfl) d_V_leafOrder_8 ?_
  refine lv_astore_n (lv' := [(2, .ref a), (0, .ref a), (1, .ref b)]) hx hb d_V_leafOrder_11 rfl hl (by decide) rfl (fun ls hl => ?_)
  refine lv_aload_n hx hb d_V_leafOrder_12 rfl (lv_at hl 2 rfl) ?_
  refine va_instE hx hb hown (ht _ q205) (z_recv hK ob rfl) d_V_leafOrder_13 ?_
  refine lv_if_eq (tgt := 30) hx hb d_V_leafOrder_16 (by decide) (fun c2 => absurd c2 (by decide)) (fun _ => ?_)
  refine lv_aload_n hx hb d_V_leafOrder_19 rfl (lv_at hl 2 rfl) ?_
  refine va_castE hx hb hown (ht _ q205) (z_recv hK ob rfl) d_V_leafOrder_20 ?_
  refine lv_astore_n (lv' := [(3, .ref b), (2, .ref a), (0, .ref a), (1, .ref b)]) hx hb d_V_leafOrder_23 rfl hl (by decide) rfl (fun ls hl => ?_)
  refine lv_aload_n hx hb d_V_leafOrder_24 rfl (lv_at hl 1 rfl) ?_
  refine lv_aload_n hx hb d_V_leafOrder_25 rfl (lv_at hl 0 rfl) ?_
  refine z_callR (va_runS (As := [.ref a, .ref b]) (rest := []) ⟨hx, hb, hml, hown, hts⟩ (c_V_numberOrder l D dT _ Bq a b t u z y hra hrb hz hy) ⟨callB_of 2 hts (gI gd_up gd_c q455) rfl rfl rfl (ht _ q1) (ht _ q453) hd_V_numberOrder ⟨Nat.le_of_ble_eq_true rfl, Nat.le_of_ble_eq_true rfl⟩, ht _ q454⟩ (z_preS hK) rfl rfl hl.1 rfl (lv_room (Nat.le_of_ble_eq_true rfl)) d_V_leafOrder_26 ⟨Nat.zero_le _, Nat.zero_le _⟩) (fun v4 hv3 => ?_)
  subst hv3
  exact z_iretR hx hb hr hlocks d_V_leafOrder_29 rfl
set_option maxHeartbeats 4000000 in
set_option maxRecDepth 100000 in
theorem c_V_leaf_r (l : Launch) (D : va_G) (dT : Nat → ClassId) (H : Heap) (Bq : Nat → Prop) (a b t u : Nat) (k j : Nat) (hra : rv D dT Bq H (.pow (.natCast k) t) a) (hrb : rv D dT Bq H (.pow (.natCast j) u) b) (hk : k % 16 ≤ 8) (hj : j % 16 ≤ 8) : Met l y_V_leafOrder w_V_leafOrder ({ frames := 2, cells := 0, slots := 0, locals := 44 }) (z_P D dT [.ref a, .ref b] H) (z_R (fun v => v = .int (lcmp (rser k) (rser j)))) 0 0 (fun _ => False) := by
  obtain ⟨x, oa, -, hxa⟩ := rv_row.mp hra
  obtain ⟨x2, ob, -, hxb⟩ := rv_row.mp hrb
  refine Met.ofW (cc := b_V_leafOrder) (maxL := 4) (ret := (Option.some .int)) (by decide) rfl ?_
  intro p e s m args below meth c s₁ B hml hv
  obtain ⟨rfl, rfl, hK⟩ := hv
  have hx := B.exec
  have hb := B.bytes
  have hr := B.returns
  have hts := atoms_spec (ws := w_V_leafOrder) B.pre
  have ht : ∀ w9 ∈ gt, w9.before [.ref a, .ref b].toArray s = true := fun w9 h => hts w9 (List.mem_cons_of_mem _ h)
  have hown : s.vm.findClass "ValueTrees" = some m.cls := findClass_of_methodNamed B.named
  have hlocks := B.notSynchronized
  have hl := lv_entry ([.ref a, .ref b]) (n := 4) (Nat.le_of_ble_eq_true rfl)
  rw [lg_entry_eq]
  generalize (lg_sl ([.ref a, .ref b]) ++ List.replicate (4 - (lg_sl ([.ref a, .ref b])).length) Slot.unset).toArray = ls at hl ⊢
  have hl : lv_has ls 4 [(0, .ref a), (1, .ref b)] := hl
  refine lv_aload_n hx hb d_V_leafOrder_0 rfl (lv_at hl 0 rfl) ?_
  refine va_instNo (C := "ValueTrees$Row") hx hb hown (ht _ q205) (hK.2.1 _ nc_Row_Whole) (z_recv hK oa rfl) d_V_leafOrder_1 ?_
  refine lv_if_eq (tgt := 30) hx hb d_V_leafOrder_4 (by decide) (fun _ => ?_) (fun c1 => absurd c1 (by decide))
  refine lv_aload_n hx hb d_V_leafOrder_30 rfl (lv_at hl 0 rfl) ?_
  refine va_instE hx hb hown (ht _ q283) (z_recv hK oa rfl) d_V_leafOrder_31 ?_
  refine lv_if_eq (tgt := 60) hx hb d_V_leafOrder_34 (by decide) (fun c2 => absurd c2 (by decide)) (fun _ => ?_)
  refine lv_aload_n hx hb d_V_leafOrder_37 rfl (lv_at hl 0 rfl) ?_
  refine va_castE hx hb hown (ht _ q283) (z_recv hK oa rfl) d_V_leafOrder_38 ?_
  refine lv_astore_n (lv' := [(2, .ref a), (0, .ref a), (1, .ref b)]) hx hb d_V_leafOrder_41 rfl hl (by decide) rfl (fun ls hl => ?_)
  refine lv_aload_n hx hb d_V_leafOrder_42 rfl (lv_at hl 2 rfl) ?_
  refine va_instE hx hb hown (ht _ q283) (z_recv hK ob rfl) d_V_leafOrder_43 ?_
  refine lv_if_eq (tgt := 60) hx hb d_V_leafOrder_46 (by decide) (fun c3 => absurd c3 (by decide)) (fun _ => ?_)
  refine lv_aload_n hx hb d_V_leafOrder_49 rfl (lv_at hl 2 rfl) ?_
  refine va_castE hx hb hown (ht _ q283) (z_recv hK ob rfl) d_V_leafOrder_50 ?_
  refine lv_astore_n (lv' := [(3, .ref b), (2, .ref a), (0, .ref a), (1, .ref b)]) hx hb d_V_leafOrder_53 rfl hl (by decide) rfl (fun ls hl => ?_)
  refine lv_aload_n hx hb d_V_leafOrder_54 rfl (lv_at hl 1 rfl) ?_
  refine lv_aload_n hx hb d_V_leafOrder_55 rfl (lv_at hl 0 rfl) ?_
  refine z_callR (va_runS (As := [.ref a, .ref b]) (rest := []) ⟨hx, hb, hml, hown, hts⟩ (c_V_rowOrder l D dT _ Bq a b t u k j hra hrb hk hj) ⟨callB_of 2 hts (gI gd_up gd_c q459) rfl rfl rfl (ht _ q1) (ht _ q457) hd_V_rowOrder ⟨Nat.le_of_ble_eq_true rfl, Nat.le_of_ble_eq_true rfl⟩, ht _ q458⟩ (z_preS hK) rfl rfl hl.1 rfl (lv_room (Nat.le_of_ble_eq_true rfl)) d_V_leafOrder_56 ⟨Nat.zero_le _, Nat.zero_le _⟩) (fun v5 hv4 => ?_)
  subst hv4
  exact z_iretR hx hb hr hlocks d_V_leafOrder_59 rfl
set_option maxHeartbeats 4000000 in
set_option maxRecDepth 100000 in
theorem c_V_leaf_0 (l : Launch) (D : va_G) (dT : Nat → ClassId) (H : Heap)  : Met l y_V_leafOrder w_V_leafOrder ({ frames := 0, cells := 0, slots := 0, locals := 0 }) (z_P D dT [.null, .null] H) (z_R (fun v => v = .int 0)) 0 0 (fun _ => False) := by
  refine Met.ofW (cc := b_V_leafOrder) (maxL := 4) (ret := (Option.some .int)) (by decide) rfl ?_
  intro p e s m args below meth c s₁ B hml hv
  obtain ⟨rfl, rfl, hK⟩ := hv
  have hx := B.exec
  have hb := B.bytes
  have hr := B.returns
  have hts := atoms_spec (ws := w_V_leafOrder) B.pre
  have ht : ∀ w9 ∈ gt, w9.before [.null, .null].toArray s = true := fun w9 h => hts w9 (List.mem_cons_of_mem _ h)
  have hown : s.vm.findClass "ValueTrees" = some m.cls := findClass_of_methodNamed B.named
  have hlocks := B.notSynchronized
  have hl := lv_entry ([.null, .null]) (n := 4) (Nat.le_of_ble_eq_true rfl)
  rw [lg_entry_eq]
  generalize (lg_sl ([.null, .null]) ++ List.replicate (4 - (lg_sl ([.null, .null])).length) Slot.unset).toArray = ls at hl ⊢
  have hl : lv_has ls 4 [(0, .null), (1, .null)] := hl
  refine lv_aload_nN hx hb d_V_leafOrder_0 rfl (lv_at hl 0 rfl) ?_
  refine lv_instN hx hb d_V_leafOrder_1 ?_
  refine lv_if_eq (tgt := 30) hx hb d_V_leafOrder_4 (by decide) (fun _ => ?_) (fun c1 => absurd c1 (by decide))
  refine lv_aload_nN hx hb d_V_leafOrder_30 rfl (lv_at hl 0 rfl) ?_
  refine lv_instN hx hb d_V_leafOrder_31 ?_
  refine lv_if_eq (tgt := 60) hx hb d_V_leafOrder_34 (by decide) (fun _ => ?_) (fun c2 => absurd c2 (by decide))
  refine lv_iconst (v := 0) hx hb d_V_leafOrder_60 (by decide) ?_
  exact z_iretR hx hb hr hlocks d_V_leafOrder_61 rfl
abbrev b_V_order : ByteArray := prog_1_method_45_code
abbrev y_V_order : MethodName := ⟨"ValueTrees", "order", "(LValueTrees$Value;LValueTrees$Value;I)I"⟩
abbrev w_V_order : List Cond := .code y_V_order b_V_order 11 (Option.some .int) :: gt
theorem hd_V_order : (y_V_order).cls ≠ "java/lang/invoke/MethodHandle" ∧ (y_V_order).cls ≠ "java/lang/invoke/VarHandle" ∧ (parseMethodDescriptor (y_V_order).desc).map (fun d => d.parameters.length) = some 3 := by decide +kernel
theorem d_V_order_0 : decode b_V_order 0 = .ok (.aload_n 0, 1) := by decide +kernel
theorem d_V_order_1 : decode b_V_order 1 = .ok (.astore_n 3, 1) := by decide +kernel
theorem d_V_order_2 : decode b_V_order 2 = .ok (.aload_n 1, 1) := by decide +kernel
theorem d_V_order_3 : decode b_V_order 3 = .ok (.astore 4, 2) := by decide +kernel
theorem d_V_order_5 : decode b_V_order 5 = .ok (.iconst 0, 1) := by decide +kernel
theorem d_V_order_6 : decode b_V_order 6 = .ok (.istore 5, 2) := by decide +kernel
theorem d_V_order_8 : decode b_V_order 8 = .ok (.iload 5, 2) := by decide +kernel
theorem d_V_order_10 : decode b_V_order 10 = .ok (.sipush 160, 3) := by decide +kernel
theorem d_V_order_13 : decode b_V_order 13 = .ok (.if_icmp .ge 163, 3) := by decide +kernel
theorem d_V_order_16 : decode b_V_order 16 = .ok (.iload_n 2, 1) := by decide +kernel
theorem d_V_order_17 : decode b_V_order 17 = .ok (.bipush 60, 2) := by decide +kernel
theorem d_V_order_19 : decode b_V_order 19 = .ok (.if_icmp .ge 157, 3) := by decide +kernel
theorem d_V_order_22 : decode b_V_order 22 = .ok (.aload_n 3, 1) := by decide +kernel
theorem d_V_order_23 : decode b_V_order 23 = .ok (.instanceof 135, 3) := by decide +kernel
theorem d_V_order_26 : decode b_V_order 26 = .ok (.ifCond .eq 66, 3) := by decide +kernel
theorem d_V_order_29 : decode b_V_order 29 = .ok (.aload_n 3, 1) := by decide +kernel
theorem d_V_order_30 : decode b_V_order 30 = .ok (.checkcast 135, 3) := by decide +kernel
theorem d_V_order_33 : decode b_V_order 33 = .ok (.astore 8, 2) := by decide +kernel
theorem d_V_order_35 : decode b_V_order 35 = .ok (.aload 4, 2) := by decide +kernel
theorem d_V_order_37 : decode b_V_order 37 = .ok (.instanceof 135, 3) := by decide +kernel
theorem d_V_order_40 : decode b_V_order 40 = .ok (.ifCond .eq 52, 3) := by decide +kernel
theorem d_V_order_43 : decode b_V_order 43 = .ok (.aload 4, 2) := by decide +kernel
theorem d_V_order_45 : decode b_V_order 45 = .ok (.checkcast 135, 3) := by decide +kernel
theorem d_V_order_48 : decode b_V_order 48 = .ok (.astore 9, 2) := by decide +kernel
theorem d_V_order_50 : decode b_V_order 50 = .ok (.aload 8, 2) := by decide +kernel
theorem d_V_order_52 : decode b_V_order 52 = .ok (.getfield 185, 3) := by decide +kernel
theorem d_V_order_55 : decode b_V_order 55 = .ok (.aload 9, 2) := by decide +kernel
theorem d_V_order_57 : decode b_V_order 57 = .ok (.getfield 185, 3) := by decide +kernel
theorem d_V_order_60 : decode b_V_order 60 = .ok (.iload_n 2, 1) := by decide +kernel
theorem d_V_order_61 : decode b_V_order 61 = .ok (.iconst 1, 1) := by decide +kernel
theorem d_V_order_62 : decode b_V_order 62 = .ok (.iadd, 1) := by decide +kernel
theorem d_V_order_63 : decode b_V_order 63 = .ok (.invokestatic 222, 3) := by decide +kernel
theorem d_V_order_66 : decode b_V_order 66 = .ok (.istore 10, 2) := by decide +kernel
theorem d_V_order_68 : decode b_V_order 68 = .ok (.iload 10, 2) := by decide +kernel
theorem d_V_order_70 : decode b_V_order 70 = .ok (.ifCond .eq 6, 3) := by decide +kernel
theorem d_V_order_73 : decode b_V_order 73 = .ok (.iload 10, 2) := by decide +kernel
theorem d_V_order_75 : decode b_V_order 75 = .ok (.ireturn, 1) := by decide +kernel
theorem d_V_order_76 : decode b_V_order 76 = .ok (.aload 8, 2) := by decide +kernel
theorem d_V_order_78 : decode b_V_order 78 = .ok (.getfield 188, 3) := by decide +kernel
theorem d_V_order_81 : decode b_V_order 81 = .ok (.astore_n 3, 1) := by decide +kernel
theorem d_V_order_82 : decode b_V_order 82 = .ok (.aload 9, 2) := by decide +kernel
theorem d_V_order_84 : decode b_V_order 84 = .ok (.getfield 188, 3) := by decide +kernel
theorem d_V_order_87 : decode b_V_order 87 = .ok (.astore 4, 2) := by decide +kernel
theorem d_V_order_89 : decode b_V_order 89 = .ok (.goto 81, 3) := by decide +kernel
theorem d_V_order_92 : decode b_V_order 92 = .ok (.aload_n 3, 1) := by decide +kernel
theorem d_V_order_93 : decode b_V_order 93 = .ok (.instanceof 104, 3) := by decide +kernel
theorem d_V_order_96 : decode b_V_order 96 = .ok (.ifCond .eq 67, 3) := by decide +kernel
theorem d_V_order_99 : decode b_V_order 99 = .ok (.aload_n 3, 1) := by decide +kernel
theorem d_V_order_100 : decode b_V_order 100 = .ok (.checkcast 104, 3) := by decide +kernel
theorem d_V_order_103 : decode b_V_order 103 = .ok (.astore 6, 2) := by decide +kernel
theorem d_V_order_105 : decode b_V_order 105 = .ok (.aload 4, 2) := by decide +kernel
theorem d_V_order_107 : decode b_V_order 107 = .ok (.instanceof 104, 3) := by decide +kernel
theorem d_V_order_110 : decode b_V_order 110 = .ok (.ifCond .eq 53, 3) := by decide +kernel
theorem d_V_order_113 : decode b_V_order 113 = .ok (.aload 4, 2) := by decide +kernel
theorem d_V_order_115 : decode b_V_order 115 = .ok (.checkcast 104, 3) := by decide +kernel
theorem d_V_order_118 : decode b_V_order 118 = .ok (.astore 7, 2) := by decide +kernel
theorem d_V_order_120 : decode b_V_order 120 = .ok (.aload 6, 2) := by decide +kernel
theorem d_V_order_122 : decode b_V_order 122 = .ok (.getfield 209, 3) := by decide +kernel
theorem d_V_order_125 : decode b_V_order 125 = .ok (.aload 7, 2) := by decide +kernel
theorem d_V_order_127 : decode b_V_order 127 = .ok (.getfield 209, 3) := by decide +kernel
theorem d_V_order_130 : decode b_V_order 130 = .ok (.if_icmp .eq 17, 3) := by decide +kernel
theorem d_V_order_133 : decode b_V_order 133 = .ok (.aload 6, 2) := by decide +kernel
theorem d_V_order_135 : decode b_V_order 135 = .ok (.getfield 209, 3) := by decide +kernel
theorem d_V_order_138 : decode b_V_order 138 = .ok (.aload 7, 2) := by decide +kernel
theorem d_V_order_140 : decode b_V_order 140 = .ok (.getfield 209, 3) := by decide +kernel
theorem d_V_order_143 : decode b_V_order 143 = .ok (.invokestatic 245, 3) := by decide +kernel
theorem d_V_order_146 : decode b_V_order 146 = .ok (.ireturn, 1) := by decide +kernel
theorem d_V_order_147 : decode b_V_order 147 = .ok (.aload 6, 2) := by decide +kernel
theorem d_V_order_149 : decode b_V_order 149 = .ok (.getfield 177, 3) := by decide +kernel
theorem d_V_order_152 : decode b_V_order 152 = .ok (.astore_n 3, 1) := by decide +kernel
theorem d_V_order_153 : decode b_V_order 153 = .ok (.aload 7, 2) := by decide +kernel
theorem d_V_order_155 : decode b_V_order 155 = .ok (.getfield 177, 3) := by decide +kernel
theorem d_V_order_158 : decode b_V_order 158 = .ok (.astore 4, 2) := by decide +kernel
theorem d_V_order_160 : decode b_V_order 160 = .ok (.goto 10, 3) := by decide +kernel
theorem d_V_order_163 : decode b_V_order 163 = .ok (.aload_n 3, 1) := by decide +kernel
theorem d_V_order_164 : decode b_V_order 164 = .ok (.aload 4, 2) := by decide +kernel
theorem d_V_order_166 : decode b_V_order 166 = .ok (.invokestatic 248, 3) := by decide +kernel
theorem d_V_order_169 : decode b_V_order 169 = .ok (.ireturn, 1) := by decide +kernel
theorem d_V_order_170 : decode b_V_order 170 = .ok (.iinc 5 1, 3) := by decide +kernel
theorem d_V_order_173 : decode b_V_order 173 = .ok (.goto (-165), 3) := by decide +kernel
theorem d_V_order_176 : decode b_V_order 176 = .ok (.iconst 0, 1) := by decide +kernel
theorem d_V_order_177 : decode b_V_order 177 = .ok (.ireturn, 1) := by decide +kernel
set_option maxHeartbeats 4000000 in
set_option maxRecDepth 100000 in
theorem c_V_order (l : Launch) (D : va_G) (dT : Nat → ClassId) (H : Heap) (Bq : Nat → Prop) (tb : Nat → TR) (tc : Nat) (hO : tOK tb tc) : ∀ (d : Nat) (dep t : Nat) (v w9 : VT) (a b : Nat), t < tc → tC (tb t) = true → wty tb v 0 t → wty tb w9 0 t → rv D dT Bq H v a → rv D dT Bq H w9 b → (cs v).length ≤ 4 * d → dep + d ≤ 40 → Met l y_V_order w_V_order ({ frames := d + 4, cells := 0, slots := 0, locals := 40 * d + 120 }) (z_P D dT [.ref a, .ref b, .int (nI dep)] H) (z_R (fun r => r = .int (vo v w9))) 0 0 (fun _ => False) := by
  intro d
  induction d with
  | zero =>
    intro dep t v w9 a b htl hcm hwv hww hra hrb hd4 hdep
    have := cs_ge hwv
    omega
  | succ d ih =>
    intro dep t v w9 a b htl hcm hwv hww hra hrb hd4 hdep
    refine Met.ofW (cc := b_V_order) (maxL := 11) (ret := (Option.some .int)) (by decide) rfl ?_
    intro p e s m args below meth c s₁ B hml hv
    obtain ⟨rfl, rfl, hK⟩ := hv
    have hx := B.exec
    have hb := B.bytes
    have hr := B.returns
    have hts := atoms_spec (ws := w_V_order) B.pre
    have ht : ∀ w9 ∈ gt, w9.before [.ref a, .ref b, .int (nI dep)].toArray s = true := fun w9 h => hts w9 (List.mem_cons_of_mem _ h)
    have hown : s.vm.findClass "ValueTrees" = some m.cls := findClass_of_methodNamed B.named
    have hlocks := B.notSynchronized
    have hl := lv_entry ([.ref a, .ref b, .int (nI dep)]) (n := 11) (Nat.le_of_ble_eq_true rfl)
    rw [lg_entry_eq]
    generalize (lg_sl ([.ref a, .ref b, .int (nI dep)]) ++ List.replicate (11 - (lg_sl ([.ref a, .ref b, .int (nI dep)])).length) Slot.unset).toArray = ls at hl ⊢
    have hl : lv_has ls 11 [(0, .ref a), (1, .ref b), (2, .int (nI dep))] := hl
    have htc := hO.1
    refine lv_aload_n hx hb d_V_order_0 rfl (lv_at hl 0 rfl) ?_
    refine lv_astore_n (lv' := [(3, .ref a), (0, .ref a), (1, .ref b), (2, .int (nI dep))]) hx hb d_V_order_1 rfl hl (by decide) rfl (fun ls hl => ?_)
    refine lv_aload_n hx hb d_V_order_2 rfl (lv_at hl 2 rfl) ?_
    refine lv_astore (lv' := [(4, .ref b), (3, .ref a), (0, .ref a), (1, .ref b), (2, .int (nI dep))]) hx hb d_V_order_3 hl (by decide) rfl (fun ls hl => ?_)
    refine lv_iconst (v := 0) hx hb d_V_order_5 (by decide) ?_
    refine lv_istore (lv' := [(5, .int 0), (4, .ref b), (3, .ref a), (0, .ref a), (1, .ref b), (2, .int (nI dep))]) hx hb d_V_order_6 hl (by decide) rfl (fun ls hl => ?_)
    have loop1 : ∀ (n89 : Nat) (t1 : Nat) (v1 : VT) (w1 : VT) (a1 : Nat) (b1 : Nat) (k9 : Nat), (t1 < tc) → (tC (tb t1) = true) → (wty tb v1 0 t1) → (wty tb w1 0 t1) → (rv D dT Bq s.heap v1 a1) → (rv D dT Bq s.heap w1 b1) → ((cs v1).length + 2 * k9 ≤ (cs v).length) → (vo v w9 = vo v1 w1) → 160 - k9 < n89 → ∀ (ls : Array Slot), lv_has ls 11 [(3, .ref a1), (4, .ref b1), (5, .int (nI k9)), (2, .int (nI dep))] → W p l e (headSpec w_V_order ({ frames := d + 1 + 4, cells := 0, slots := 0, locals := 40 * (d + 1) + 120 })).room s m [.ref a, .ref b, .int (nI dep)].toArray below meth c s.heap [] 0 0 (MQ below (z_R (fun r => r = .int (vo v w9))) [.ref a, .ref b, .int (nI dep)].toArray s 0 0 (fun _ => False)) (F0 m 8 ls []) := by
      intro n89
      induction n89 with
      | zero =>
        intro t1 v1 w1 a1 b1 k9 htl hcm hwv hww hra hrb hln hvo h89
        exact absurd h89 (Nat.not_lt_zero _)
      | succ n89 ih8 =>
        intro t1 v1 w1 a1 b1 k9 htl hcm hwv hww hra hrb hln hvo h89  ls hl
        have hge := cs_ge hwv
        obtain ⟨cv, ecv, hcv⟩ := wty_pow hwv
        obtain ⟨cw, ecw, hcw⟩ := wty_pow hww
        subst ecv ecw
        rcases cmp_cases hO htl hcm with hwd | hwd | hwd | hwd | ⟨hwd, hcl⟩ | ⟨hwd, hcl, hcr⟩ | ⟨hwd, hcl, hcr⟩
        · obtain ⟨z, rfl, hz⟩ := w_num hcv hwd
          obtain ⟨y, rfl, hy⟩ := w_num hcw hwd
          obtain ⟨da, oa, -, oda, -⟩ := rv_num.mp hra
          obtain ⟨db, ob, -, odb, -⟩ := rv_num.mp hrb
          refine lv_iload hx hb d_V_order_8 (lv_at hl 2 rfl) ?_
          refine lv_sipush (v := 160) hx hb d_V_order_10 (by decide) ?_
          refine lv_icmp_ge (tgt := 176) hx hb d_V_order_13 (by decide) (fun c2 => absurd c2 (fun h9 => absurd ((nI_leI (a := 160) (b := k9) (by decide) (by omega)).mp h9) (by omega))) (fun c2 => ?_)
          refine lv_iload_n hx hb d_V_order_16 rfl (lv_at hl 3 rfl) ?_
          refine lv_bipush (v := 60) hx hb d_V_order_17 (by decide) ?_
          refine lv_icmp_ge (tgt := 176) hx hb d_V_order_19 (by decide) (fun c3 => absurd c3 (fun h9 => absurd ((nI_leI (a := 60) (b := dep) (by decide) (by omega)).mp h9) (by omega))) (fun c3 => ?_)
          refine lv_aload_n hx hb d_V_order_22 rfl (lv_at hl 0 rfl) ?_
          refine va_instNo (C := "ValueTrees$Whole") hx hb hown (ht _ q387) (hK.2.1 _ nc_Whole_Couple) (z_recv hK oa rfl) d_V_order_23 ?_
          refine lv_if_eq (tgt := 92) hx hb d_V_order_26 (by decide) (fun _ => ?_) (fun c4 => absurd c4 (by decide))
          refine lv_aload_n hx hb d_V_order_92 rfl (lv_at hl 0 rfl) ?_
          refine va_instNo (C := "ValueTrees$Whole") hx hb hown (ht _ q303) (hK.2.1 _ nc_Whole_Choice) (z_recv hK oa rfl) d_V_order_93 ?_
          refine lv_if_eq (tgt := 163) hx hb d_V_order_96 (by decide) (fun _ => ?_) (fun c5 => absurd c5 (by decide))
          refine lv_aload_n hx hb d_V_order_163 rfl (lv_at hl 0 rfl) ?_
          refine lv_aload hx hb d_V_order_164 (lv_at hl 1 rfl) ?_
          refine z_callR (va_runS (As := [.ref a1, .ref b1]) (rest := []) ⟨hx, hb, hml, hown, hts⟩ (c_V_leaf_n l D dT _ Bq a1 b1 t1 t1 z y hra hrb hz hy) ⟨callB_of 2 hts (gI gd_up gd_c q452) rfl rfl rfl (ht _ q1) (ht _ q450) hd_V_leafOrder ⟨by show 2 + 1 ≤ d + 1 + 4; omega, by show 8 + (4 + 11) + 44 ≤ 40 * (d + 1) + 120; omega⟩, ht _ q451⟩ (z_preS hK) rfl rfl hl.1 rfl (lv_room (Nat.le_of_ble_eq_true rfl)) d_V_order_166 ⟨Nat.zero_le _, Nat.zero_le _⟩) (fun v7 hv6 => ?_)
          subst hv6
          exact z_iretR hx hb hr hlocks d_V_order_169 (by rw [hvo]; rfl)
        · obtain ⟨k, rfl, hk, -, -⟩ := w_row hcv hwd
          obtain ⟨j, rfl, hj, -, -⟩ := w_row hcw hwd
          obtain ⟨x, oa, -, hxa⟩ := rv_row.mp hra
          obtain ⟨x2, ob, -, hxb⟩ := rv_row.mp hrb
          refine lv_iload hx hb d_V_order_8 (lv_at hl 2 rfl) ?_
          refine lv_sipush (v := 160) hx hb d_V_order_10 (by decide) ?_
          refine lv_icmp_ge (tgt := 176) hx hb d_V_order_13 (by decide) (fun c8 => absurd c8 (fun h9 => absurd ((nI_leI (a := 160) (b := k9) (by decide) (by omega)).mp h9) (by omega))) (fun c8 => ?_)
          refine lv_iload_n hx hb d_V_order_16 rfl (lv_at hl 3 rfl) ?_
          refine lv_bipush (v := 60) hx hb d_V_order_17 (by decide) ?_
          refine lv_icmp_ge (tgt := 176) hx hb d_V_order_19 (by decide) (fun c9 => absurd c9 (fun h9 => absurd ((nI_leI (a := 60) (b := dep) (by decide) (by omega)).mp h9) (by omega))) (fun c9 => ?_)
          refine lv_aload_n hx hb d_V_order_22 rfl (lv_at hl 0 rfl) ?_
          refine va_instNo (C := "ValueTrees$Row") hx hb hown (ht _ q387) (hK.2.1 _ nc_Row_Couple) (z_recv hK oa rfl) d_V_order_23 ?_
          refine lv_if_eq (tgt := 92) hx hb d_V_order_26 (by decide) (fun _ => ?_) (fun c10 => absurd c10 (by decide))
          refine lv_aload_n hx hb d_V_order_92 rfl (lv_at hl 0 rfl) ?_
          refine va_instNo (C := "ValueTrees$Row") hx hb hown (ht _ q303) (hK.2.1 _ nc_Row_Choice) (z_recv hK oa rfl) d_V_order_93 ?_
          refine lv_if_eq (tgt := 163) hx hb d_V_order_96 (by decide) (fun _ => ?_) (fun c11 => absurd c11 (by decide))
          refine lv_aload_n hx hb d_V_order_163 rfl (lv_at hl 0 rfl) ?_
          refine lv_aload hx hb d_V_order_164 (lv_at hl 1 rfl) ?_
          refine z_callR (va_runS (As := [.ref a1, .ref b1]) (rest := []) ⟨hx, hb, hml, hown, hts⟩ (c_V_leaf_r l D dT _ Bq a1 b1 t1 t1 k j hra hrb hk hj) ⟨callB_of 2 hts (gI gd_up gd_c q452) rfl rfl rfl (ht _ q1) (ht _ q450) hd_V_leafOrder ⟨by show 2 + 1 ≤ d + 1 + 4; omega, by show 8 + (4 + 11) + 44 ≤ 40 * (d + 1) + 120; omega⟩, ht _ q451⟩ (z_preS hK) rfl rfl hl.1 rfl (lv_room (Nat.le_of_ble_eq_true rfl)) d_V_order_166 ⟨Nat.zero_le _, Nat.zero_le _⟩) (fun v13 hv12 => ?_)
          subst hv12
          exact z_iretR hx hb hr hlocks d_V_order_169 (by rw [hvo]; rfl)
        · have ec := w_unit hcv hwd
          subst ec
          have ec := w_unit hcw hwd
          subst ec
          obtain ⟨oa, -⟩ := rv_var.mp hra
          obtain ⟨ob, -⟩ := rv_var.mp hrb
          refine lv_iload hx hb d_V_order_8 (lv_at hl 2 rfl) ?_
          refine lv_sipush (v := 160) hx hb d_V_order_10 (by decide) ?_
          refine lv_icmp_ge (tgt := 176) hx hb d_V_order_13 (by decide) (fun c14 => absurd c14 (fun h9 => absurd ((nI_leI (a := 160) (b := k9) (by decide) (by omega)).mp h9) (by omega))) (fun c14 => ?_)
          refine lv_iload_n hx hb d_V_order_16 rfl (lv_at hl 3 rfl) ?_
          refine lv_bipush (v := 60) hx hb d_V_order_17 (by decide) ?_
          refine lv_icmp_ge (tgt := 176) hx hb d_V_order_19 (by decide) (fun c15 => absurd c15 (fun h9 => absurd ((nI_leI (a := 60) (b := dep) (by decide) (by omega)).mp h9) (by omega))) (fun c15 => ?_)
          refine lv_aload_n hx hb d_V_order_22 rfl (lv_at hl 0 rfl) ?_
          refine va_instNo (C := "ValueTrees$Choice") hx hb hown (ht _ q387) (hK.2.1 _ nc_Choice_Couple) (z_recv hK oa rfl) d_V_order_23 ?_
          refine lv_if_eq (tgt := 92) hx hb d_V_order_26 (by decide) (fun _ => ?_) (fun c16 => absurd c16 (by decide))
          refine lv_aload_n hx hb d_V_order_92 rfl (lv_at hl 0 rfl) ?_
          refine va_instE hx hb hown (ht _ q303) (z_recv hK oa rfl) d_V_order_93 ?_
          refine lv_if_eq (tgt := 163) hx hb d_V_order_96 (by decide) (fun c17 => absurd c17 (by decide)) (fun _ => ?_)
          refine lv_aload_n hx hb d_V_order_99 rfl (lv_at hl 0 rfl) ?_
          refine va_castE hx hb hown (ht _ q303) (z_recv hK oa rfl) d_V_order_100 ?_
          refine lv_astore (lv' := [(6, .ref a1), (3, .ref a1), (4, .ref b1), (5, .int (nI k9)), (2, .int (nI dep))]) hx hb d_V_order_103 hl (by decide) rfl (fun ls hl => ?_)
          refine lv_aload hx hb d_V_order_105 (lv_at hl 2 rfl) ?_
          refine va_instE hx hb hown (ht _ q303) (z_recv hK ob rfl) d_V_order_107 ?_
          refine lv_if_eq (tgt := 163) hx hb d_V_order_110 (by decide) (fun c18 => absurd c18 (by decide)) (fun _ => ?_)
          refine lv_aload hx hb d_V_order_113 (lv_at hl 2 rfl) ?_
          refine va_castE hx hb hown (ht _ q303) (z_recv hK ob rfl) d_V_order_115 ?_
          refine lv_astore (lv' := [(7, .ref b1), (6, .ref a1), (3, .ref a1), (4, .ref b1), (5, .int (nI k9)), (2, .int (nI dep))]) hx hb d_V_order_118 hl (by decide) rfl (fun ls hl => ?_)
          refine lv_aload hx hb d_V_order_120 (lv_at hl 1 rfl) ?_
          refine va_get (D := D) (ci := 4) (v := .int (-1)) (C := "ValueTrees$Choice") (T := T_Choice) (N := 4) hx hb ht in_Choice hown hK.1 (z_1 oa) 0 rfl rfl 2 (by decide) (ht _ q310) (fun _ h9 => h9) rfl d_V_order_122 ?_
          refine lv_aload hx hb d_V_order_125 (lv_at hl 0 rfl) ?_
          refine va_get (D := D) (ci := 4) (v := .int (-1)) (C := "ValueTrees$Choice") (T := T_Choice) (N := 4) hx hb ht in_Choice hown hK.1 (z_1 ob) 0 rfl rfl 2 (by decide) (ht _ q310) (fun _ h9 => h9) rfl d_V_order_127 ?_
          refine lv_icmp_eq (tgt := 147) hx hb d_V_order_130 (by decide) (fun _ => ?_) (fun c19 => absurd c19 (by decide))
          refine lv_aload hx hb d_V_order_147 (lv_at hl 1 rfl) ?_
          refine va_get (D := D) (ci := 4) (v := .null) (C := "ValueTrees$Choice") (T := T_Choice) (N := 4) hx hb ht in_Choice hown hK.1 (z_1 oa) 0 rfl rfl 3 (by decide) (ht _ q312) (fun _ h9 => h9) rfl d_V_order_149 ?_
          refine lv_astore_nN (lv' := [(3, .null), (7, .ref b1), (6, .ref a1), (4, .ref b1), (5, .int (nI k9)), (2, .int (nI dep))]) hx hb d_V_order_152 rfl hl (by decide) rfl (fun ls hl => ?_)
          refine lv_aload hx hb d_V_order_153 (lv_at hl 1 rfl) ?_
          refine va_get (D := D) (ci := 4) (v := .null) (C := "ValueTrees$Choice") (T := T_Choice) (N := 4) hx hb ht in_Choice hown hK.1 (z_1 ob) 0 rfl rfl 3 (by decide) (ht _ q312) (fun _ h9 => h9) rfl d_V_order_155 ?_
          refine lv_astoreN (lv' := [(4, .null), (3, .null), (7, .ref b1), (6, .ref a1), (5, .int (nI k9)), (2, .int (nI dep))]) hx hb d_V_order_158 hl (by decide) rfl (fun ls hl => ?_)
          refine lv_goto (tgt := 170) hx hb d_V_order_160 (by decide) ?_
          refine lv_iinc (v := (nI (k9 + 1))) (lv' := [(5, .int (nI (k9 + 1))), (4, .null), (3, .null), (7, .ref b1), (6, .ref a1), (2, .int (nI dep))]) hx hb d_V_order_170 hl (k := 4) rfl (nI_1 k9) (by decide) rfl (fun ls hl => ?_)
          refine lv_goto (tgt := 8) hx hb d_V_order_173 (by decide) ?_
          refine lv_iload hx hb d_V_order_8 (lv_at hl 0 rfl) ?_
          refine lv_sipush (v := 160) hx hb d_V_order_10 (by decide) ?_
          refine lv_icmp_ge (tgt := 176) hx hb d_V_order_13 (by decide) (fun c20 => absurd c20 (fun h9 => absurd ((nI_leI (a := 160) (b := (k9 + 1)) (by decide) (by omega)).mp h9) (by omega))) (fun c20 => ?_)
          refine lv_iload_n hx hb d_V_order_16 rfl (lv_at hl 5 rfl) ?_
          refine lv_bipush (v := 60) hx hb d_V_order_17 (by decide) ?_
          refine lv_icmp_ge (tgt := 176) hx hb d_V_order_19 (by decide) (fun c21 => absurd c21 (fun h9 => absurd ((nI_leI (a := 60) (b := dep) (by decide) (by omega)).mp h9) (by omega))) (fun c21 => ?_)
          refine lv_aload_nN hx hb d_V_order_22 rfl (lv_at hl 2 rfl) ?_
          refine lv_instN hx hb d_V_order_23 ?_
          refine lv_if_eq (tgt := 92) hx hb d_V_order_26 (by decide) (fun _ => ?_) (fun c22 => absurd c22 (by decide))
          refine lv_aload_nN hx hb d_V_order_92 rfl (lv_at hl 2 rfl) ?_
          refine lv_instN hx hb d_V_order_93 ?_
          refine lv_if_eq (tgt := 163) hx hb d_V_order_96 (by decide) (fun _ => ?_) (fun c23 => absurd c23 (by decide))
          refine lv_aload_nN hx hb d_V_order_163 rfl (lv_at hl 2 rfl) ?_
          refine lv_aloadN hx hb d_V_order_164 (lv_at hl 1 rfl) ?_
          refine z_callR (va_runS (As := [.null, .null]) (rest := []) ⟨hx, hb, hml, hown, hts⟩ (c_V_leaf_0 l D dT _) ⟨callB_of 2 hts (gI gd_up gd_c q452) rfl rfl rfl (ht _ q1) (ht _ q450) hd_V_leafOrder ⟨by show 0 + 1 ≤ d + 1 + 4; omega, by show 8 + (4 + 11) + 0 ≤ 40 * (d + 1) + 120; omega⟩, ht _ q451⟩ (z_preS hK) rfl rfl hl.1 rfl (lv_room (Nat.le_of_ble_eq_true rfl)) d_V_order_166 ⟨Nat.zero_le _, Nat.zero_le _⟩) (fun v25 hv24 => ?_)
          subst hv24
          exact z_iretR hx hb hr hlocks d_V_order_169 (by rw [hvo]; rfl)
        · rcases w_bool hcv hwd with rfl | rfl
          · rcases w_bool hcw hwd with rfl | rfl
            · obtain ⟨oa, -⟩ := rv_var.mp hra
              obtain ⟨ob, -⟩ := rv_var.mp hrb
              refine lv_iload hx hb d_V_order_8 (lv_at hl 2 rfl) ?_
              refine lv_sipush (v := 160) hx hb d_V_order_10 (by decide) ?_
              refine lv_icmp_ge (tgt := 176) hx hb d_V_order_13 (by decide) (fun c26 => absurd c26 (fun h9 => absurd ((nI_leI (a := 160) (b := k9) (by decide) (by omega)).mp h9) (by omega))) (fun c26 => ?_)
              refine lv_iload_n hx hb d_V_order_16 rfl (lv_at hl 3 rfl) ?_
              refine lv_bipush (v := 60) hx hb d_V_order_17 (by decide) ?_
              refine lv_icmp_ge (tgt := 176) hx hb d_V_order_19 (by decide) (fun c27 => absurd c27 (fun h9 => absurd ((nI_leI (a := 60) (b := dep) (by decide) (by omega)).mp h9) (by omega))) (fun c27 => ?_)
              refine lv_aload_n hx hb d_V_order_22 rfl (lv_at hl 0 rfl) ?_
              refine va_instNo (C := "ValueTrees$Choice") hx hb hown (ht _ q387) (hK.2.1 _ nc_Choice_Couple) (z_recv hK oa rfl) d_V_order_23 ?_
              refine lv_if_eq (tgt := 92) hx hb d_V_order_26 (by decide) (fun _ => ?_) (fun c28 => absurd c28 (by decide))
              refine lv_aload_n hx hb d_V_order_92 rfl (lv_at hl 0 rfl) ?_
              refine va_instE hx hb hown (ht _ q303) (z_recv hK oa rfl) d_V_order_93 ?_
              refine lv_if_eq (tgt := 163) hx hb d_V_order_96 (by decide) (fun c29 => absurd c29 (by decide)) (fun _ => ?_)
              refine lv_aload_n hx hb d_V_order_99 rfl (lv_at hl 0 rfl) ?_
              refine va_castE hx hb hown (ht _ q303) (z_recv hK oa rfl) d_V_order_100 ?_
              refine lv_astore (lv' := [(6, .ref a1), (3, .ref a1), (4, .ref b1), (5, .int (nI k9)), (2, .int (nI dep))]) hx hb d_V_order_103 hl (by decide) rfl (fun ls hl => ?_)
              refine lv_aload hx hb d_V_order_105 (lv_at hl 2 rfl) ?_
              refine va_instE hx hb hown (ht _ q303) (z_recv hK ob rfl) d_V_order_107 ?_
              refine lv_if_eq (tgt := 163) hx hb d_V_order_110 (by decide) (fun c30 => absurd c30 (by decide)) (fun _ => ?_)
              refine lv_aload hx hb d_V_order_113 (lv_at hl 2 rfl) ?_
              refine va_castE hx hb hown (ht _ q303) (z_recv hK ob rfl) d_V_order_115 ?_
              refine lv_astore (lv' := [(7, .ref b1), (6, .ref a1), (3, .ref a1), (4, .ref b1), (5, .int (nI k9)), (2, .int (nI dep))]) hx hb d_V_order_118 hl (by decide) rfl (fun ls hl => ?_)
              refine lv_aload hx hb d_V_order_120 (lv_at hl 1 rfl) ?_
              refine va_get (D := D) (ci := 4) (v := .int 0) (C := "ValueTrees$Choice") (T := T_Choice) (N := 4) hx hb ht in_Choice hown hK.1 (z_1 oa) 0 rfl rfl 2 (by decide) (ht _ q310) (fun _ h9 => h9) rfl d_V_order_122 ?_
              refine lv_aload hx hb d_V_order_125 (lv_at hl 0 rfl) ?_
              refine va_get (D := D) (ci := 4) (v := .int 0) (C := "ValueTrees$Choice") (T := T_Choice) (N := 4) hx hb ht in_Choice hown hK.1 (z_1 ob) 0 rfl rfl 2 (by decide) (ht _ q310) (fun _ h9 => h9) rfl d_V_order_127 ?_
              refine lv_icmp_eq (tgt := 147) hx hb d_V_order_130 (by decide) (fun _ => ?_) (fun c31 => absurd c31 (by decide))
              refine lv_aload hx hb d_V_order_147 (lv_at hl 1 rfl) ?_
              refine va_get (D := D) (ci := 4) (v := .null) (C := "ValueTrees$Choice") (T := T_Choice) (N := 4) hx hb ht in_Choice hown hK.1 (z_1 oa) 0 rfl rfl 3 (by decide) (ht _ q312) (fun _ h9 => h9) rfl d_V_order_149 ?_
              refine lv_astore_nN (lv' := [(3, .null), (7, .ref b1), (6, .ref a1), (4, .ref b1), (5, .int (nI k9)), (2, .int (nI dep))]) hx hb d_V_order_152 rfl hl (by decide) rfl (fun ls hl => ?_)
              refine lv_aload hx hb d_V_order_153 (lv_at hl 1 rfl) ?_
              refine va_get (D := D) (ci := 4) (v := .null) (C := "ValueTrees$Choice") (T := T_Choice) (N := 4) hx hb ht in_Choice hown hK.1 (z_1 ob) 0 rfl rfl 3 (by decide) (ht _ q312) (fun _ h9 => h9) rfl d_V_order_155 ?_
              refine lv_astoreN (lv' := [(4, .null), (3, .null), (7, .ref b1), (6, .ref a1), (5, .int (nI k9)), (2, .int (nI dep))]) hx hb d_V_order_158 hl (by decide) rfl (fun ls hl => ?_)
              refine lv_goto (tgt := 170) hx hb d_V_order_160 (by decide) ?_
              refine lv_iinc (v := (nI (k9 + 1))) (lv' := [(5, .int (nI (k9 + 1))), (4, .null), (3, .null), (7, .ref b1), (6, .ref a1), (2, .int (nI dep))]) hx hb d_V_order_170 hl (k := 4) rfl (nI_1 k9) (by decide) rfl (fun ls hl => ?_)
              refine lv_goto (tgt := 8) hx hb d_V_order_173 (by decide) ?_
              refine lv_iload hx hb d_V_order_8 (lv_at hl 0 rfl) ?_
              refine lv_sipush (v := 160) hx hb d_V_order_10 (by decide) ?_
              refine lv_icmp_ge (tgt := 176) hx hb d_V_order_13 (by decide) (fun c32 => absurd c32 (fun h9 => absurd ((nI_leI (a := 160) (b := (k9 + 1)) (by decide) (by omega)).mp h9) (by omega))) (fun c32 => ?_)
              refine lv_iload_n hx hb d_V_order_16 rfl (lv_at hl 5 rfl) ?_
              refine lv_bipush (v := 60) hx hb d_V_order_17 (by decide) ?_
              refine lv_icmp_ge (tgt := 176) hx hb d_V_order_19 (by decide) (fun c33 => absurd c33 (fun h9 => absurd ((nI_leI (a := 60) (b := dep) (by decide) (by omega)).mp h9) (by omega))) (fun c33 => ?_)
              refine lv_aload_nN hx hb d_V_order_22 rfl (lv_at hl 2 rfl) ?_
              refine lv_instN hx hb d_V_order_23 ?_
              refine lv_if_eq (tgt := 92) hx hb d_V_order_26 (by decide) (fun _ => ?_) (fun c34 => absurd c34 (by decide))
              refine lv_aload_nN hx hb d_V_order_92 rfl (lv_at hl 2 rfl) ?_
              refine lv_instN hx hb d_V_order_93 ?_
              refine lv_if_eq (tgt := 163) hx hb d_V_order_96 (by decide) (fun _ => ?_) (fun c35 => absurd c35 (by decide))
              refine lv_aload_nN hx hb d_V_order_163 rfl (lv_at hl 2 rfl) ?_
              refine lv_aloadN hx hb d_V_order_164 (lv_at hl 1 rfl) ?_
              refine z_callR (va_runS (As := [.null, .null]) (rest := []) ⟨hx, hb, hml, hown, hts⟩ (c_V_leaf_0 l D dT _) ⟨callB_of 2 hts (gI gd_up gd_c q452) rfl rfl rfl (ht _ q1) (ht _ q450) hd_V_leafOrder ⟨by show 0 + 1 ≤ d + 1 + 4; omega, by show 8 + (4 + 11) + 0 ≤ 40 * (d + 1) + 120; omega⟩, ht _ q451⟩ (z_preS hK) rfl rfl hl.1 rfl (lv_room (Nat.le_of_ble_eq_true rfl)) d_V_order_166 ⟨Nat.zero_le _, Nat.zero_le _⟩) (fun v37 hv36 => ?_)
              subst hv36
              exact z_iretR hx hb hr hlocks d_V_order_169 (by rw [hvo]; rfl)
            · obtain ⟨oa, -⟩ := rv_var.mp hra
              obtain ⟨ob, -⟩ := rv_var.mp hrb
              refine lv_iload hx hb d_V_order_8 (lv_at hl 2 rfl) ?_
              refine lv_sipush (v := 160) hx hb d_V_order_10 (by decide) ?_
              refine lv_icmp_ge (tgt := 176) hx hb d_V_order_13 (by decide) (fun c38 => absurd c38 (fun h9 => absurd ((nI_leI (a := 160) (b := k9) (by decide) (by omega)).mp h9) (by omega))) (fun c38 => ?_)
              refine lv_iload_n hx hb d_V_order_16 rfl (lv_at hl 3 rfl) ?_
              refine lv_bipush (v := 60) hx hb d_V_order_17 (by decide) ?_
              refine lv_icmp_ge (tgt := 176) hx hb d_V_order_19 (by decide) (fun c39 => absurd c39 (fun h9 => absurd ((nI_leI (a := 60) (b := dep) (by decide) (by omega)).mp h9) (by omega))) (fun c39 => ?_)
              refine lv_aload_n hx hb d_V_order_22 rfl (lv_at hl 0 rfl) ?_
              refine va_instNo (C := "ValueTrees$Choice") hx hb hown (ht _ q387) (hK.2.1 _ nc_Choice_Couple) (z_recv hK oa rfl) d_V_order_23 ?_
              refine lv_if_eq (tgt := 92) hx hb d_V_order_26 (by decide) (fun _ => ?_) (fun c40 => absurd c40 (by decide))
              refine lv_aload_n hx hb d_V_order_92 rfl (lv_at hl 0 rfl) ?_
              refine va_instE hx hb hown (ht _ q303) (z_recv hK oa rfl) d_V_order_93 ?_
              refine lv_if_eq (tgt := 163) hx hb d_V_order_96 (by decide) (fun c41 => absurd c41 (by decide)) (fun _ => ?_)
              refine lv_aload_n hx hb d_V_order_99 rfl (lv_at hl 0 rfl) ?_
              refine va_castE hx hb hown (ht _ q303) (z_recv hK oa rfl) d_V_order_100 ?_
              refine lv_astore (lv' := [(6, .ref a1), (3, .ref a1), (4, .ref b1), (5, .int (nI k9)), (2, .int (nI dep))]) hx hb d_V_order_103 hl (by decide) rfl (fun ls hl => ?_)
              refine lv_aload hx hb d_V_order_105 (lv_at hl 2 rfl) ?_
              refine va_instE hx hb hown (ht _ q303) (z_recv hK ob rfl) d_V_order_107 ?_
              refine lv_if_eq (tgt := 163) hx hb d_V_order_110 (by decide) (fun c42 => absurd c42 (by decide)) (fun _ => ?_)
              refine lv_aload hx hb d_V_order_113 (lv_at hl 2 rfl) ?_
              refine va_castE hx hb hown (ht _ q303) (z_recv hK ob rfl) d_V_order_115 ?_
              refine lv_astore (lv' := [(7, .ref b1), (6, .ref a1), (3, .ref a1), (4, .ref b1), (5, .int (nI k9)), (2, .int (nI dep))]) hx hb d_V_order_118 hl (by decide) rfl (fun ls hl => ?_)
              refine lv_aload hx hb d_V_order_120 (lv_at hl 1 rfl) ?_
              refine va_get (D := D) (ci := 4) (v := .int 0) (C := "ValueTrees$Choice") (T := T_Choice) (N := 4) hx hb ht in_Choice hown hK.1 (z_1 oa) 0 rfl rfl 2 (by decide) (ht _ q310) (fun _ h9 => h9) rfl d_V_order_122 ?_
              refine lv_aload hx hb d_V_order_125 (lv_at hl 0 rfl) ?_
              refine va_get (D := D) (ci := 4) (v := .int 1) (C := "ValueTrees$Choice") (T := T_Choice) (N := 4) hx hb ht in_Choice hown hK.1 (z_1 ob) 0 rfl rfl 2 (by decide) (ht _ q310) (fun _ h9 => h9) rfl d_V_order_127 ?_
              refine lv_icmp_eq (tgt := 147) hx hb d_V_order_130 (by decide) (fun c43 => absurd c43 (by decide)) (fun _ => ?_)
              refine lv_aload hx hb d_V_order_133 (lv_at hl 1 rfl) ?_
              refine va_get (D := D) (ci := 4) (v := .int 0) (C := "ValueTrees$Choice") (T := T_Choice) (N := 4) hx hb ht in_Choice hown hK.1 (z_1 oa) 0 rfl rfl 2 (by decide) (ht _ q310) (fun _ h9 => h9) rfl d_V_order_135 ?_
              refine lv_aload hx hb d_V_order_138 (lv_at hl 0 rfl) ?_
              refine va_get (D := D) (ci := 4) (v := .int 1) (C := "ValueTrees$Choice") (T := T_Choice) (N := 4) hx hb ht in_Choice hown hK.1 (z_1 ob) 0 rfl rfl 2 (by decide) (ht _ q310) (fun _ h9 => h9) rfl d_V_order_140 ?_
              refine z_callR (va_runS (As := [.int 0, .int 1]) (rest := []) ⟨hx, hb, hml, hown, hts⟩ (c_V_intOrder l D dT _ 0 1) ⟨callB_of 2 hts (gI gd_up gd_c q449) rfl rfl rfl (ht _ q1) (ht _ q447) hd_V_intOrder ⟨by show 0 + 1 ≤ d + 1 + 4; omega, by show 8 + (2 + 11) + 0 ≤ 40 * (d + 1) + 120; omega⟩, ht _ q448⟩ (z_preS hK) rfl rfl hl.1 rfl (lv_room (Nat.le_of_ble_eq_true rfl)) d_V_order_143 ⟨Nat.zero_le _, Nat.zero_le _⟩) (fun v45 hv44 => ?_)
              have hv44 : v45 = .int (-1) := hv44
              subst hv44
              exact z_iretR hx hb hr hlocks d_V_order_146 (by rw [hvo]; rfl)
          · rcases w_bool hcw hwd with rfl | rfl
            · obtain ⟨oa, -⟩ := rv_var.mp hra
              obtain ⟨ob, -⟩ := rv_var.mp hrb
              refine lv_iload hx hb d_V_order_8 (lv_at hl 2 rfl) ?_
              refine lv_sipush (v := 160) hx hb d_V_order_10 (by decide) ?_
              refine lv_icmp_ge (tgt := 176) hx hb d_V_order_13 (by decide) (fun c46 => absurd c46 (fun h9 => absurd ((nI_leI (a := 160) (b := k9) (by decide) (by omega)).mp h9) (by omega))) (fun c46 => ?_)
              refine lv_iload_n hx hb d_V_order_16 rfl (lv_at hl 3 rfl) ?_
              refine lv_bipush (v := 60) hx hb d_V_order_17 (by decide) ?_
              refine lv_icmp_ge (tgt := 176) hx hb d_V_order_19 (by decide) (fun c47 => absurd c47 (fun h9 => absurd ((nI_leI (a := 60) (b := dep) (by decide) (by omega)).mp h9) (by omega))) (fun c47 => ?_)
              refine lv_aload_n hx hb d_V_order_22 rfl (lv_at hl 0 rfl) ?_
              refine va_instNo (C := "ValueTrees$Choice") hx hb hown (ht _ q387) (hK.2.1 _ nc_Choice_Couple) (z_recv hK oa rfl) d_V_order_23 ?_
              refine lv_if_eq (tgt := 92) hx hb d_V_order_26 (by decide) (fun _ => ?_) (fun c48 => absurd c48 (by decide))
              refine lv_aload_n hx hb d_V_order_92 rfl (lv_at hl 0 rfl) ?_
              refine va_instE hx hb hown (ht _ q303) (z_recv hK oa rfl) d_V_order_93 ?_
              refine lv_if_eq (tgt := 163) hx hb d_V_order_96 (by decide) (fun c49 => absurd c49 (by decide)) (fun _ => ?_)
              refine lv_aload_n hx hb d_V_order_99 rfl (lv_at hl 0 rfl) ?_
              refine va_castE hx hb hown (ht _ q303) (z_recv hK oa rfl) d_V_order_100 ?_
              refine lv_astore (lv' := [(6, .ref a1), (3, .ref a1), (4, .ref b1), (5, .int (nI k9)), (2, .int (nI dep))]) hx hb d_V_order_103 hl (by decide) rfl (fun ls hl => ?_)
              refine lv_aload hx hb d_V_order_105 (lv_at hl 2 rfl) ?_
              refine va_instE hx hb hown (ht _ q303) (z_recv hK ob rfl) d_V_order_107 ?_
              refine lv_if_eq (tgt := 163) hx hb d_V_order_110 (by decide) (fun c50 => absurd c50 (by decide)) (fun _ => ?_)
              refine lv_aload hx hb d_V_order_113 (lv_at hl 2 rfl) ?_
              refine va_castE hx hb hown (ht _ q303) (z_recv hK ob rfl) d_V_order_115 ?_
              refine lv_astore (lv' := [(7, .ref b1), (6, .ref a1), (3, .ref a1), (4, .ref b1), (5, .int (nI k9)), (2, .int (nI dep))]) hx hb d_V_order_118 hl (by decide) rfl (fun ls hl => ?_)
              refine lv_aload hx hb d_V_order_120 (lv_at hl 1 rfl) ?_
              refine va_get (D := D) (ci := 4) (v := .int 1) (C := "ValueTrees$Choice") (T := T_Choice) (N := 4) hx hb ht in_Choice hown hK.1 (z_1 oa) 0 rfl rfl 2 (by decide) (ht _ q310) (fun _ h9 => h9) rfl d_V_order_122 ?_
              refine lv_aload hx hb d_V_order_125 (lv_at hl 0 rfl) ?_
              refine va_get (D := D) (ci := 4) (v := .int 0) (C := "ValueTrees$Choice") (T := T_Choice) (N := 4) hx hb ht in_Choice hown hK.1 (z_1 ob) 0 rfl rfl 2 (by decide) (ht _ q310) (fun _ h9 => h9) rfl d_V_order_127 ?_
              refine lv_icmp_eq (tgt := 147) hx hb d_V_order_130 (by decide) (fun c51 => absurd c51 (by decide)) (fun _ => ?_)
              refine lv_aload hx hb d_V_order_133 (lv_at hl 1 rfl) ?_
              refine va_get (D := D) (ci := 4) (v := .int 1) (C := "ValueTrees$Choice") (T := T_Choice) (N := 4) hx hb ht in_Choice hown hK.1 (z_1 oa) 0 rfl rfl 2 (by decide) (ht _ q310) (fun _ h9 => h9) rfl d_V_order_135 ?_
              refine lv_aload hx hb d_V_order_138 (lv_at hl 0 rfl) ?_
              refine va_get (D := D) (ci := 4) (v := .int 0) (C := "ValueTrees$Choice") (T := T_Choice) (N := 4) hx hb ht in_Choice hown hK.1 (z_1 ob) 0 rfl rfl 2 (by decide) (ht _ q310) (fun _ h9 => h9) rfl d_V_order_140 ?_
              refine z_callR (va_runS (As := [.int 1, .int 0]) (rest := []) ⟨hx, hb, hml, hown, hts⟩ (c_V_intOrder l D dT _ 1 0) ⟨callB_of 2 hts (gI gd_up gd_c q449) rfl rfl rfl (ht _ q1) (ht _ q447) hd_V_intOrder ⟨by show 0 + 1 ≤ d + 1 + 4; omega, by show 8 + (2 + 11) + 0 ≤ 40 * (d + 1) + 120; omega⟩, ht _ q448⟩ (z_preS hK) rfl rfl hl.1 rfl (lv_room (Nat.le_of_ble_eq_true rfl)) d_V_order_143 ⟨Nat.zero_le _, Nat.zero_le _⟩) (fun v53 hv52 => ?_)
              have hv52 : v53 = .int 1 := hv52
              subst hv52
              exact z_iretR hx hb hr hlocks d_V_order_146 (by rw [hvo]; rfl)
            · obtain ⟨oa, -⟩ := rv_var.mp hra
              obtain ⟨ob, -⟩ := rv_var.mp hrb
              refine lv_iload hx hb d_V_order_8 (lv_at hl 2 rfl) ?_
              refine lv_sipush (v := 160) hx hb d_V_order_10 (by decide) ?_
              refine lv_icmp_ge (tgt := 176) hx hb d_V_order_13 (by decide) (fun c54 => absurd c54 (fun h9 => absurd ((nI_leI (a := 160) (b := k9) (by decide) (by omega)).mp h9) (by omega))) (fun c54 => ?_)
              refine lv_iload_n hx hb d_V_order_16 rfl (lv_at hl 3 rfl) ?_
              refine lv_bipush (v := 60) hx hb d_V_order_17 (by decide) ?_
              refine lv_icmp_ge (tgt := 176) hx hb d_V_order_19 (by decide) (fun c55 => absurd c55 (fun h9 => absurd ((nI_leI (a := 60) (b := dep) (by decide) (by omega)).mp h9) (by omega))) (fun c55 => ?_)
              refine lv_aload_n hx hb d_V_order_22 rfl (lv_at hl 0 rfl) ?_
              refine va_instNo (C := "ValueTrees$Choice") hx hb hown (ht _ q387) (hK.2.1 _ nc_Choice_Couple) (z_recv hK oa rfl) d_V_order_23 ?_
              refine lv_if_eq (tgt := 92) hx hb d_V_order_26 (by decide) (fun _ => ?_) (fun c56 => absurd c56 (by decide))
              refine lv_aload_n hx hb d_V_order_92 rfl (lv_at hl 0 rfl) ?_
              refine va_instE hx hb hown (ht _ q303) (z_recv hK oa rfl) d_V_order_93 ?_
              refine lv_if_eq (tgt := 163) hx hb d_V_order_96 (by decide) (fun c57 => absurd c57 (by decide)) (fun _ => ?_)
              refine lv_aload_n hx hb d_V_order_99 rfl (lv_at hl 0 rfl) ?_
              refine va_castE hx hb hown (ht _ q303) (z_recv hK oa rfl) d_V_order_100 ?_
              refine lv_astore (lv' := [(6, .ref a1), (3, .ref a1), (4, .ref b1), (5, .int (nI k9)), (2, .int (nI dep))]) hx hb d_V_order_103 hl (by decide) rfl (fun ls hl => ?_)
              refine lv_aload hx hb d_V_order_105 (lv_at hl 2 rfl) ?_
              refine va_instE hx hb hown (ht _ q303) (z_recv hK ob rfl) d_V_order_107 ?_
              refine lv_if_eq (tgt := 163) hx hb d_V_order_110 (by decide) (fun c58 => absurd c58 (by decide)) (fun _ => ?_)
              refine lv_aload hx hb d_V_order_113 (lv_at hl 2 rfl) ?_
              refine va_castE hx hb hown (ht _ q303) (z_recv hK ob rfl) d_V_order_115 ?_
              refine lv_astore (lv' := [(7, .ref b1), (6, .ref a1), (3, .ref a1), (4, .ref b1), (5, .int (nI k9)), (2, .int (nI dep))]) hx hb d_V_order_118 hl (by decide) rfl (fun ls hl => ?_)
              refine lv_aload hx hb d_V_order_120 (lv_at hl 1 rfl) ?_
              refine va_get (D := D) (ci := 4) (v := .int 1) (C := "ValueTrees$Choice") (T := T_Choice) (N := 4) hx hb ht in_Choice hown hK.1 (z_1 oa) 0 rfl rfl 2 (by decide) (ht _ q310) (fun _ h9 => h9) rfl d_V_order_122 ?_
              refine lv_aload hx hb d_V_order_125 (lv_at hl 0 rfl) ?_
              refine va_get (D := D) (ci := 4) (v := .int 1) (C := "ValueTrees$Choice") (T := T_Choice) (N := 4) hx hb ht in_Choice hown hK.1 (z_1 ob) 0 rfl rfl 2 (by decide) (ht _ q310) (fun _ h9 => h9) rfl d_V_order_127 ?_
              refine lv_icmp_eq (tgt := 147) hx hb d_V_order_130 (by decide) (fun _ => ?_) (fun c59 => absurd c59 (by decide))
              refine lv_aload hx hb d_V_order_147 (lv_at hl 1 rfl) ?_
              refine va_get (D := D) (ci := 4) (v := .null) (C := "ValueTrees$Choice") (T := T_Choice) (N := 4) hx hb ht in_Choice hown hK.1 (z_1 oa) 0 rfl rfl 3 (by decide) (ht _ q312) (fun _ h9 => h9) rfl d_V_order_149 ?_
              refine lv_astore_nN (lv' := [(3, .null), (7, .ref b1), (6, .ref a1), (4, .ref b1), (5, .int (nI k9)), (2, .int (nI dep))]) hx hb d_V_order_152 rfl hl (by decide) rfl (fun ls hl => ?_)
              refine lv_aload hx hb d_V_order_153 (lv_at hl 1 rfl) ?_
              refine va_get (D := D) (ci := 4) (v := .null) (C := "ValueTrees$Choice") (T := T_Choice) (N := 4) hx hb ht in_Choice hown hK.1 (z_1 ob) 0 rfl rfl 3 (by decide) (ht _ q312) (fun _ h9 => h9) rfl d_V_order_155 ?_
              refine lv_astoreN (lv' := [(4, .null), (3, .null), (7, .ref b1), (6, .ref a1), (5, .int (nI k9)), (2, .int (nI dep))]) hx hb d_V_order_158 hl (by decide) rfl (fun ls hl => ?_)
              refine lv_goto (tgt := 170) hx hb d_V_order_160 (by decide) ?_
              refine lv_iinc (v := (nI (k9 + 1))) (lv' := [(5, .int (nI (k9 + 1))), (4, .null), (3, .null), (7, .ref b1), (6, .ref a1), (2, .int (nI dep))]) hx hb d_V_order_170 hl (k := 4) rfl (nI_1 k9) (by decide) rfl (fun ls hl => ?_)
              refine lv_goto (tgt := 8) hx hb d_V_order_173 (by decide) ?_
              refine lv_iload hx hb d_V_order_8 (lv_at hl 0 rfl) ?_
              refine lv_sipush (v := 160) hx hb d_V_order_10 (by decide) ?_
              refine lv_icmp_ge (tgt := 176) hx hb d_V_order_13 (by decide) (fun c60 => absurd c60 (fun h9 => absurd ((nI_leI (a := 160) (b := (k9 + 1)) (by decide) (by omega)).mp h9) (by omega))) (fun c60 => ?_)
              refine lv_iload_n hx hb d_V_order_16 rfl (lv_at hl 5 rfl) ?_
              refine lv_bipush (v := 60) hx hb d_V_order_17 (by decide) ?_
              refine lv_icmp_ge (tgt := 176) hx hb d_V_order_19 (by decide) (fun c61 => absurd c61 (fun h9 => absurd ((nI_leI (a := 60) (b := dep) (by decide) (by omega)).mp h9) (by omega))) (fun c61 => ?_)
              refine lv_aload_nN hx hb d_V_order_22 rfl (lv_at hl 2 rfl) ?_
              refine lv_instN hx hb d_V_order_23 ?_
              refine lv_if_eq (tgt := 92) hx hb d_V_order_26 (by decide) (fun _ => ?_) (fun c62 => absurd c62 (by decide))
              refine lv_aload_nN hx hb d_V_order_92 rfl (lv_at hl 2 rfl) ?_
              refine lv_instN hx hb d_V_order_93 ?_
              refine lv_if_eq (tgt := 163) hx hb d_V_order_96 (by decide) (fun _ => ?_) (fun c63 => absurd c63 (by decide))
              refine lv_aload_nN hx hb d_V_order_163 rfl (lv_at hl 2 rfl) ?_
              refine lv_aloadN hx hb d_V_order_164 (lv_at hl 1 rfl) ?_
              refine z_callR (va_runS (As := [.null, .null]) (rest := []) ⟨hx, hb, hml, hown, hts⟩ (c_V_leaf_0 l D dT _) ⟨callB_of 2 hts (gI gd_up gd_c q452) rfl rfl rfl (ht _ q1) (ht _ q450) hd_V_leafOrder ⟨by show 0 + 1 ≤ d + 1 + 4; omega, by show 8 + (4 + 11) + 0 ≤ 40 * (d + 1) + 120; omega⟩, ht _ q451⟩ (z_preS hK) rfl rfl hl.1 rfl (lv_room (Nat.le_of_ble_eq_true rfl)) d_V_order_166 ⟨Nat.zero_le _, Nat.zero_le _⟩) (fun v65 hv64 => ?_)
              subst hv64
              exact z_iretR hx hb hr hlocks d_V_order_169 (by rw [hvo]; rfl)
        · obtain ⟨hL, hlt, hlp⟩ := tl_some hO htl (by omega)
          rcases w_opt hcv hwd with rfl | ⟨xv, rfl, hxv⟩
          · rcases w_opt hcw hwd with rfl | ⟨xw, rfl, hxw⟩
            · obtain ⟨oa, -⟩ := rv_var.mp hra
              obtain ⟨ob, -⟩ := rv_var.mp hrb
              refine lv_iload hx hb d_V_order_8 (lv_at hl 2 rfl) ?_
              refine lv_sipush (v := 160) hx hb d_V_order_10 (by decide) ?_
              refine lv_icmp_ge (tgt := 176) hx hb d_V_order_13 (by decide) (fun c66 => absurd c66 (fun h9 => absurd ((nI_leI (a := 160) (b := k9) (by decide) (by omega)).mp h9) (by omega))) (fun c66 => ?_)
              refine lv_iload_n hx hb d_V_order_16 rfl (lv_at hl 3 rfl) ?_
              refine lv_bipush (v := 60) hx hb d_V_order_17 (by decide) ?_
              refine lv_icmp_ge (tgt := 176) hx hb d_V_order_19 (by decide) (fun c67 => absurd c67 (fun h9 => absurd ((nI_leI (a := 60) (b := dep) (by decide) (by omega)).mp h9) (by omega))) (fun c67 => ?_)
              refine lv_aload_n hx hb d_V_order_22 rfl (lv_at hl 0 rfl) ?_
              refine va_instNo (C := "ValueTrees$Choice") hx hb hown (ht _ q387) (hK.2.1 _ nc_Choice_Couple) (z_recv hK oa rfl) d_V_order_23 ?_
              refine lv_if_eq (tgt := 92) hx hb d_V_order_26 (by decide) (fun _ => ?_) (fun c68 => absurd c68 (by decide))
              refine lv_aload_n hx hb d_V_order_92 rfl (lv_at hl 0 rfl) ?_
              refine va_instE hx hb hown (ht _ q303) (z_recv hK oa rfl) d_V_order_93 ?_
              refine lv_if_eq (tgt := 163) hx hb d_V_order_96 (by decide) (fun c69 => absurd c69 (by decide)) (fun _ => ?_)
              refine lv_aload_n hx hb d_V_order_99 rfl (lv_at hl 0 rfl) ?_
              refine va_castE hx hb hown (ht _ q303) (z_recv hK oa rfl) d_V_order_100 ?_
              refine lv_astore (lv' := [(6, .ref a1), (3, .ref a1), (4, .ref b1), (5, .int (nI k9)), (2, .int (nI dep))]) hx hb d_V_order_103 hl (by decide) rfl (fun ls hl => ?_)
              refine lv_aload hx hb d_V_order_105 (lv_at hl 2 rfl) ?_
              refine va_instE hx hb hown (ht _ q303) (z_recv hK ob rfl) d_V_order_107 ?_
              refine lv_if_eq (tgt := 163) hx hb d_V_order_110 (by decide) (fun c70 => absurd c70 (by decide)) (fun _ => ?_)
              refine lv_aload hx hb d_V_order_113 (lv_at hl 2 rfl) ?_
              refine va_castE hx hb hown (ht _ q303) (z_recv hK ob rfl) d_V_order_115 ?_
              refine lv_astore (lv' := [(7, .ref b1), (6, .ref a1), (3, .ref a1), (4, .ref b1), (5, .int (nI k9)), (2, .int (nI dep))]) hx hb d_V_order_118 hl (by decide) rfl (fun ls hl => ?_)
              refine lv_aload hx hb d_V_order_120 (lv_at hl 1 rfl) ?_
              refine va_get (D := D) (ci := 4) (v := .int 0) (C := "ValueTrees$Choice") (T := T_Choice) (N := 4) hx hb ht in_Choice hown hK.1 (z_1 oa) 0 rfl rfl 2 (by decide) (ht _ q310) (fun _ h9 => h9) rfl d_V_order_122 ?_
              refine lv_aload hx hb d_V_order_125 (lv_at hl 0 rfl) ?_
              refine va_get (D := D) (ci := 4) (v := .int 0) (C := "ValueTrees$Choice") (T := T_Choice) (N := 4) hx hb ht in_Choice hown hK.1 (z_1 ob) 0 rfl rfl 2 (by decide) (ht _ q310) (fun _ h9 => h9) rfl d_V_order_127 ?_
              refine lv_icmp_eq (tgt := 147) hx hb d_V_order_130 (by decide) (fun _ => ?_) (fun c71 => absurd c71 (by decide))
              refine lv_aload hx hb d_V_order_147 (lv_at hl 1 rfl) ?_
              refine va_get (D := D) (ci := 4) (v := .null) (C := "ValueTrees$Choice") (T := T_Choice) (N := 4) hx hb ht in_Choice hown hK.1 (z_1 oa) 0 rfl rfl 3 (by decide) (ht _ q312) (fun _ h9 => h9) rfl d_V_order_149 ?_
              refine lv_astore_nN (lv' := [(3, .null), (7, .ref b1), (6, .ref a1), (4, .ref b1), (5, .int (nI k9)), (2, .int (nI dep))]) hx hb d_V_order_152 rfl hl (by decide) rfl (fun ls hl => ?_)
              refine lv_aload hx hb d_V_order_153 (lv_at hl 1 rfl) ?_
              refine va_get (D := D) (ci := 4) (v := .null) (C := "ValueTrees$Choice") (T := T_Choice) (N := 4) hx hb ht in_Choice hown hK.1 (z_1 ob) 0 rfl rfl 3 (by decide) (ht _ q312) (fun _ h9 => h9) rfl d_V_order_155 ?_
              refine lv_astoreN (lv' := [(4, .null), (3, .null), (7, .ref b1), (6, .ref a1), (5, .int (nI k9)), (2, .int (nI dep))]) hx hb d_V_order_158 hl (by decide) rfl (fun ls hl => ?_)
              refine lv_goto (tgt := 170) hx hb d_V_order_160 (by decide) ?_
              refine lv_iinc (v := (nI (k9 + 1))) (lv' := [(5, .int (nI (k9 + 1))), (4, .null), (3, .null), (7, .ref b1), (6, .ref a1), (2, .int (nI dep))]) hx hb d_V_order_170 hl (k := 4) rfl (nI_1 k9) (by decide) rfl (fun ls hl => ?_)
              refine lv_goto (tgt := 8) hx hb d_V_order_173 (by decide) ?_
              refine lv_iload hx hb d_V_order_8 (lv_at hl 0 rfl) ?_
              refine lv_sipush (v := 160) hx hb d_V_order_10 (by decide) ?_
              refine lv_icmp_ge (tgt := 176) hx hb d_V_order_13 (by decide) (fun c72 => absurd c72 (fun h9 => absurd ((nI_leI (a := 160) (b := (k9 + 1)) (by decide) (by omega)).mp h9) (by omega))) (fun c72 => ?_)
              refine lv_iload_n hx hb d_V_order_16 rfl (lv_at hl 5 rfl) ?_
              refine lv_bipush (v := 60) hx hb d_V_order_17 (by decide) ?_
              refine lv_icmp_ge (tgt := 176) hx hb d_V_order_19 (by decide) (fun c73 => absurd c73 (fun h9 => absurd ((nI_leI (a := 60) (b := dep) (by decide) (by omega)).mp h9) (by omega))) (fun c73 => ?_)
              refine lv_aload_nN hx hb d_V_order_22 rfl (lv_at hl 2 rfl) ?_
              refine lv_instN hx hb d_V_order_23 ?_
              refine lv_if_eq (tgt := 92) hx hb d_V_order_26 (by decide) (fun _ => ?_) (fun c74 => absurd c74 (by decide))
              refine lv_aload_nN hx hb d_V_order_92 rfl (lv_at hl 2 rfl) ?_
              refine lv_instN hx hb d_V_order_93 ?_
              refine lv_if_eq (tgt := 163) hx hb d_V_order_96 (by decide) (fun _ => ?_) (fun c75 => absurd c75 (by decide))
              refine lv_aload_nN hx hb d_V_order_163 rfl (lv_at hl 2 rfl) ?_
              refine lv_aloadN hx hb d_V_order_164 (lv_at hl 1 rfl) ?_
              refine z_callR (va_runS (As := [.null, .null]) (rest := []) ⟨hx, hb, hml, hown, hts⟩ (c_V_leaf_0 l D dT _) ⟨callB_of 2 hts (gI gd_up gd_c q452) rfl rfl rfl (ht _ q1) (ht _ q450) hd_V_leafOrder ⟨by show 0 + 1 ≤ d + 1 + 4; omega, by show 8 + (4 + 11) + 0 ≤ 40 * (d + 1) + 120; omega⟩, ht _ q451⟩ (z_preS hK) rfl rfl hl.1 rfl (lv_room (Nat.le_of_ble_eq_true rfl)) d_V_order_166 ⟨Nat.zero_le _, Nat.zero_le _⟩) (fun v77 hv76 => ?_)
              subst hv76
              exact z_iretR hx hb hr hlocks d_V_order_169 (by rw [hvo]; rfl)
            · obtain ⟨oa, -⟩ := rv_var.mp hra
              obtain ⟨b2, ob, -, hrb2⟩ := rv_sub.mp hrb
              refine lv_iload hx hb d_V_order_8 (lv_at hl 2 rfl) ?_
              refine lv_sipush (v := 160) hx hb d_V_order_10 (by decide) ?_
              refine lv_icmp_ge (tgt := 176) hx hb d_V_order_13 (by decide) (fun c78 => absurd c78 (fun h9 => absurd ((nI_leI (a := 160) (b := k9) (by decide) (by omega)).mp h9) (by omega))) (fun c78 => ?_)
              refine lv_iload_n hx hb d_V_order_16 rfl (lv_at hl 3 rfl) ?_
              refine lv_bipush (v := 60) hx hb d_V_order_17 (by decide) ?_
              refine lv_icmp_ge (tgt := 176) hx hb d_V_order_19 (by decide) (fun c79 => absurd c79 (fun h9 => absurd ((nI_leI (a := 60) (b := dep) (by decide) (by omega)).mp h9) (by omega))) (fun c79 => ?_)
              refine lv_aload_n hx hb d_V_order_22 rfl (lv_at hl 0 rfl) ?_
              refine va_instNo (C := "ValueTrees$Choice") hx hb hown (ht _ q387) (hK.2.1 _ nc_Choice_Couple) (z_recv hK oa rfl) d_V_order_23 ?_
              refine lv_if_eq (tgt := 92) hx hb d_V_order_26 (by decide) (fun _ => ?_) (fun c80 => absurd c80 (by decide))
              refine lv_aload_n hx hb d_V_order_92 rfl (lv_at hl 0 rfl) ?_
              refine va_instE hx hb hown (ht _ q303) (z_recv hK oa rfl) d_V_order_93 ?_
              refine lv_if_eq (tgt := 163) hx hb d_V_order_96 (by decide) (fun c81 => absurd c81 (by decide)) (fun _ => ?_)
              refine lv_aload_n hx hb d_V_order_99 rfl (lv_at hl 0 rfl) ?_
              refine va_castE hx hb hown (ht _ q303) (z_recv hK oa rfl) d_V_order_100 ?_
              refine lv_astore (lv' := [(6, .ref a1), (3, .ref a1), (4, .ref b1), (5, .int (nI k9)), (2, .int (nI dep))]) hx hb d_V_order_103 hl (by decide) rfl (fun ls hl => ?_)
              refine lv_aload hx hb d_V_order_105 (lv_at hl 2 rfl) ?_
              refine va_instE hx hb hown (ht _ q303) (z_recv hK ob rfl) d_V_order_107 ?_
              refine lv_if_eq (tgt := 163) hx hb d_V_order_110 (by decide) (fun c82 => absurd c82 (by decide)) (fun _ => ?_)
              refine lv_aload hx hb d_V_order_113 (lv_at hl 2 rfl) ?_
              refine va_castE hx hb hown (ht _ q303) (z_recv hK ob rfl) d_V_order_115 ?_
              refine lv_astore (lv' := [(7, .ref b1), (6, .ref a1), (3, .ref a1), (4, .ref b1), (5, .int (nI k9)), (2, .int (nI dep))]) hx hb d_V_order_118 hl (by decide) rfl (fun ls hl => ?_)
              refine lv_aload hx hb d_V_order_120 (lv_at hl 1 rfl) ?_
              refine va_get (D := D) (ci := 4) (v := .int 0) (C := "ValueTrees$Choice") (T := T_Choice) (N := 4) hx hb ht in_Choice hown hK.1 (z_1 oa) 0 rfl rfl 2 (by decide) (ht _ q310) (fun _ h9 => h9) rfl d_V_order_122 ?_
              refine lv_aload hx hb d_V_order_125 (lv_at hl 0 rfl) ?_
              refine va_get (D := D) (ci := 4) (v := .int 1) (C := "ValueTrees$Choice") (T := T_Choice) (N := 4) hx hb ht in_Choice hown hK.1 (z_1 ob) 0 rfl rfl 2 (by decide) (ht _ q310) (fun _ h9 => h9) rfl d_V_order_127 ?_
              refine lv_icmp_eq (tgt := 147) hx hb d_V_order_130 (by decide) (fun c83 => absurd c83 (by decide)) (fun _ => ?_)
              refine lv_aload hx hb d_V_order_133 (lv_at hl 1 rfl) ?_
              refine va_get (D := D) (ci := 4) (v := .int 0) (C := "ValueTrees$Choice") (T := T_Choice) (N := 4) hx hb ht in_Choice hown hK.1 (z_1 oa) 0 rfl rfl 2 (by decide) (ht _ q310) (fun _ h9 => h9) rfl d_V_order_135 ?_
              refine lv_aload hx hb d_V_order_138 (lv_at hl 0 rfl) ?_
              refine va_get (D := D) (ci := 4) (v := .int 1) (C := "ValueTrees$Choice") (T := T_Choice) (N := 4) hx hb ht in_Choice hown hK.1 (z_1 ob) 0 rfl rfl 2 (by decide) (ht _ q310) (fun _ h9 => h9) rfl d_V_order_140 ?_
              refine z_callR (va_runS (As := [.int 0, .int 1]) (rest := []) ⟨hx, hb, hml, hown, hts⟩ (c_V_intOrder l D dT _ 0 1) ⟨callB_of 2 hts (gI gd_up gd_c q449) rfl rfl rfl (ht _ q1) (ht _ q447) hd_V_intOrder ⟨by show 0 + 1 ≤ d + 1 + 4; omega, by show 8 + (2 + 11) + 0 ≤ 40 * (d + 1) + 120; omega⟩, ht _ q448⟩ (z_preS hK) rfl rfl hl.1 rfl (lv_room (Nat.le_of_ble_eq_true rfl)) d_V_order_143 ⟨Nat.zero_le _, Nat.zero_le _⟩) (fun v85 hv84 => ?_)
              have hv84 : v85 = .int (-1) := hv84
              subst hv84
              exact z_iretR hx hb hr hlocks d_V_order_146 (by rw [hvo]; rfl)
          · rcases w_opt hcw hwd with rfl | ⟨xw, rfl, hxw⟩
            · obtain ⟨a2, oa, -, hra2⟩ := rv_sub.mp hra
              obtain ⟨ob, -⟩ := rv_var.mp hrb
              refine lv_iload hx hb d_V_order_8 (lv_at hl 2 rfl) ?_
              refine lv_sipush (v := 160) hx hb d_V_order_10 (by decide) ?_
              refine lv_icmp_ge (tgt := 176) hx hb d_V_order_13 (by decide) (fun c86 => absurd c86 (fun h9 => absurd ((nI_leI (a := 160) (b := k9) (by decide) (by omega)).mp h9) (by omega))) (fun c86 => ?_)
              refine lv_iload_n hx hb d_V_order_16 rfl (lv_at hl 3 rfl) ?_
              refine lv_bipush (v := 60) hx hb d_V_order_17 (by decide) ?_
              refine lv_icmp_ge (tgt := 176) hx hb d_V_order_19 (by decide) (fun c87 => absurd c87 (fun h9 => absurd ((nI_leI (a := 60) (b := dep) (by decide) (by omega)).mp h9) (by omega))) (fun c87 => ?_)
              refine lv_aload_n hx hb d_V_order_22 rfl (lv_at hl 0 rfl) ?_
              refine va_instNo (C := "ValueTrees$Choice") hx hb hown (ht _ q387) (hK.2.1 _ nc_Choice_Couple) (z_recv hK oa rfl) d_V_order_23 ?_
              refine lv_if_eq (tgt := 92) hx hb d_V_order_26 (by decide) (fun _ => ?_) (fun c88 => absurd c88 (by decide))
              refine lv_aload_n hx hb d_V_order_92 rfl (lv_at hl 0 rfl) ?_
              refine va_instE hx hb hown (ht _ q303) (z_recv hK oa rfl) d_V_order_93 ?_
              refine lv_if_eq (tgt := 163) hx hb d_V_order_96 (by decide) (fun c89 => absurd c89 (by decide)) (fun _ => ?_)
              refine lv_aload_n hx hb d_V_order_99 rfl (lv_at hl 0 rfl) ?_
              refine va_castE hx hb hown (ht _ q303) (z_recv hK oa rfl) d_V_order_100 ?_
              refine lv_astore (lv' := [(6, .ref a1), (3, .ref a1), (4, .ref b1), (5, .int (nI k9)), (2, .int (nI dep))]) hx hb d_V_order_103 hl (by decide) rfl (fun ls hl => ?_)
              refine lv_aload hx hb d_V_order_105 (lv_at hl 2 rfl) ?_
              refine va_instE hx hb hown (ht _ q303) (z_recv hK ob rfl) d_V_order_107 ?_
              refine lv_if_eq (tgt := 163) hx hb d_V_order_110 (by decide) (fun c90 => absurd c90 (by decide)) (fun _ => ?_)
              refine lv_aload hx hb d_V_order_113 (lv_at hl 2 rfl) ?_
              refine va_castE hx hb hown (ht _ q303) (z_recv hK ob rfl) d_V_order_115 ?_
              refine lv_astore (lv' := [(7, .ref b1), (6, .ref a1), (3, .ref a1), (4, .ref b1), (5, .int (nI k9)), (2, .int (nI dep))]) hx hb d_V_order_118 hl (by decide) rfl (fun ls hl => ?_)
              refine lv_aload hx hb d_V_order_120 (lv_at hl 1 rfl) ?_
              refine va_get (D := D) (ci := 4) (v := .int 1) (C := "ValueTrees$Choice") (T := T_Choice) (N := 4) hx hb ht in_Choice hown hK.1 (z_1 oa) 0 rfl rfl 2 (by decide) (ht _ q310) (fun _ h9 => h9) rfl d_V_order_122 ?_
              refine lv_aload hx hb d_V_order_125 (lv_at hl 0 rfl) ?_
              refine va_get (D := D) (ci := 4) (v := .int 0) (C := "ValueTrees$Choice") (T := T_Choice) (N := 4) hx hb ht in_Choice hown hK.1 (z_1 ob) 0 rfl rfl 2 (by decide) (ht _ q310) (fun _ h9 => h9) rfl d_V_order_127 ?_
              refine lv_icmp_eq (tgt := 147) hx hb d_V_order_130 (by decide) (fun c91 => absurd c91 (by decide)) (fun _ => ?_)
              refine lv_aload hx hb d_V_order_133 (lv_at hl 1 rfl) ?_
              refine va_get (D := D) (ci := 4) (v := .int 1) (C := "ValueTrees$Choice") (T := T_Choice) (N := 4) hx hb ht in_Choice hown hK.1 (z_1 oa) 0 rfl rfl 2 (by decide) (ht _ q310) (fun _ h9 => h9) rfl d_V_order_135 ?_
              refine lv_aload hx hb d_V_order_138 (lv_at hl 0 rfl) ?_
              refine va_get (D := D) (ci := 4) (v := .int 0) (C := "ValueTrees$Choice") (T := T_Choice) (N := 4) hx hb ht in_Choice hown hK.1 (z_1 ob) 0 rfl rfl 2 (by decide) (ht _ q310) (fun _ h9 => h9) rfl d_V_order_140 ?_
              refine z_callR (va_runS (As := [.int 1, .int 0]) (rest := []) ⟨hx, hb, hml, hown, hts⟩ (c_V_intOrder l D dT _ 1 0) ⟨callB_of 2 hts (gI gd_up gd_c q449) rfl rfl rfl (ht _ q1) (ht _ q447) hd_V_intOrder ⟨by show 0 + 1 ≤ d + 1 + 4; omega, by show 8 + (2 + 11) + 0 ≤ 40 * (d + 1) + 120; omega⟩, ht _ q448⟩ (z_preS hK) rfl rfl hl.1 rfl (lv_room (Nat.le_of_ble_eq_true rfl)) d_V_order_143 ⟨Nat.zero_le _, Nat.zero_le _⟩) (fun v93 hv92 => ?_)
              have hv92 : v93 = .int 1 := hv92
              subst hv92
              exact z_iretR hx hb hr hlocks d_V_order_146 (by rw [hvo]; rfl)
            · obtain ⟨a2, oa, -, hra2⟩ := rv_sub.mp hra
              obtain ⟨b2, ob, -, hrb2⟩ := rv_sub.mp hrb
              refine lv_iload hx hb d_V_order_8 (lv_at hl 2 rfl) ?_
              refine lv_sipush (v := 160) hx hb d_V_order_10 (by decide) ?_
              refine lv_icmp_ge (tgt := 176) hx hb d_V_order_13 (by decide) (fun c94 => absurd c94 (fun h9 => absurd ((nI_leI (a := 160) (b := k9) (by decide) (by omega)).mp h9) (by omega))) (fun c94 => ?_)
              refine lv_iload_n hx hb d_V_order_16 rfl (lv_at hl 3 rfl) ?_
              refine lv_bipush (v := 60) hx hb d_V_order_17 (by decide) ?_
              refine lv_icmp_ge (tgt := 176) hx hb d_V_order_19 (by decide) (fun c95 => absurd c95 (fun h9 => absurd ((nI_leI (a := 60) (b := dep) (by decide) (by omega)).mp h9) (by omega))) (fun c95 => ?_)
              refine lv_aload_n hx hb d_V_order_22 rfl (lv_at hl 0 rfl) ?_
              refine va_instNo (C := "ValueTrees$Choice") hx hb hown (ht _ q387) (hK.2.1 _ nc_Choice_Couple) (z_recv hK oa rfl) d_V_order_23 ?_
              refine lv_if_eq (tgt := 92) hx hb d_V_order_26 (by decide) (fun _ => ?_) (fun c96 => absurd c96 (by decide))
              refine lv_aload_n hx hb d_V_order_92 rfl (lv_at hl 0 rfl) ?_
              refine va_instE hx hb hown (ht _ q303) (z_recv hK oa rfl) d_V_order_93 ?_
              refine lv_if_eq (tgt := 163) hx hb d_V_order_96 (by decide) (fun c97 => absurd c97 (by decide)) (fun _ => ?_)
              refine lv_aload_n hx hb d_V_order_99 rfl (lv_at hl 0 rfl) ?_
              refine va_castE hx hb hown (ht _ q303) (z_recv hK oa rfl) d_V_order_100 ?_
              refine lv_astore (lv' := [(6, .ref a1), (3, .ref a1), (4, .ref b1), (5, .int (nI k9)), (2, .int (nI dep))]) hx hb d_V_order_103 hl (by decide) rfl (fun ls hl => ?_)
              refine lv_aload hx hb d_V_order_105 (lv_at hl 2 rfl) ?_
              refine va_instE hx hb hown (ht _ q303) (z_recv hK ob rfl) d_V_order_107 ?_
              refine lv_if_eq (tgt := 163) hx hb d_V_order_110 (by decide) (fun c98 => absurd c98 (by decide)) (fun _ => ?_)
              refine lv_aload hx hb d_V_order_113 (lv_at hl 2 rfl) ?_
              refine va_castE hx hb hown (ht _ q303) (z_recv hK ob rfl) d_V_order_115 ?_
              refine lv_astore (lv' := [(7, .ref b1), (6, .ref a1), (3, .ref a1), (4, .ref b1), (5, .int (nI k9)), (2, .int (nI dep))]) hx hb d_V_order_118 hl (by decide) rfl (fun ls hl => ?_)
              refine lv_aload hx hb d_V_order_120 (lv_at hl 1 rfl) ?_
              refine va_get (D := D) (ci := 4) (v := .int 1) (C := "ValueTrees$Choice") (T := T_Choice) (N := 4) hx hb ht in_Choice hown hK.1 (z_1 oa) 0 rfl rfl 2 (by decide) (ht _ q310) (fun _ h9 => h9) rfl d_V_order_122 ?_
              refine lv_aload hx hb d_V_order_125 (lv_at hl 0 rfl) ?_
              refine va_get (D := D) (ci := 4) (v := .int 1) (C := "ValueTrees$Choice") (T := T_Choice) (N := 4) hx hb ht in_Choice hown hK.1 (z_1 ob) 0 rfl rfl 2 (by decide) (ht _ q310) (fun _ h9 => h9) rfl d_V_order_127 ?_
              refine lv_icmp_eq (tgt := 147) hx hb d_V_order_130 (by decide) (fun _ => ?_) (fun c99 => absurd c99 (by decide))
              refine lv_aload hx hb d_V_order_147 (lv_at hl 1 rfl) ?_
              refine va_get (D := D) (ci := 4) (v := .ref a2) (C := "ValueTrees$Choice") (T := T_Choice) (N := 4) hx hb ht in_Choice hown hK.1 (z_1 oa) 0 rfl rfl 3 (by decide) (ht _ q312) (fun _ h9 => h9) rfl d_V_order_149 ?_
              refine lv_astore_n (lv' := [(3, .ref a2), (7, .ref b1), (6, .ref a1), (4, .ref b1), (5, .int (nI k9)), (2, .int (nI dep))]) hx hb d_V_order_152 rfl hl (by decide) rfl (fun ls hl => ?_)
              refine lv_aload hx hb d_V_order_153 (lv_at hl 1 rfl) ?_
              refine va_get (D := D) (ci := 4) (v := .ref b2) (C := "ValueTrees$Choice") (T := T_Choice) (N := 4) hx hb ht in_Choice hown hK.1 (z_1 ob) 0 rfl rfl 3 (by decide) (ht _ q312) (fun _ h9 => h9) rfl d_V_order_155 ?_
              refine lv_astore (lv' := [(4, .ref b2), (3, .ref a2), (7, .ref b1), (6, .ref a1), (5, .int (nI k9)), (2, .int (nI dep))]) hx hb d_V_order_158 hl (by decide) rfl (fun ls hl => ?_)
              refine lv_goto (tgt := 170) hx hb d_V_order_160 (by decide) ?_
              refine lv_iinc (v := (nI (k9 + 1))) (lv' := [(5, .int (nI (k9 + 1))), (4, .ref b2), (3, .ref a2), (7, .ref b1), (6, .ref a1), (2, .int (nI dep))]) hx hb d_V_order_170 hl (k := 4) rfl (nI_1 k9) (by decide) rfl (fun ls hl => ?_)
              refine lv_goto (tgt := 8) hx hb d_V_order_173 (by decide) ?_
              exact ih8 (lt_ tb t1) xv xw a2 b2 (k9 + 1) (by omega) hcl hxv hxw hra2 hrb2 (by rw [l_sub] at hln; omega) (by rw [hvo]; rfl) (by omega)  ls (lv_sub hl [2, 1, 0, 5] rfl)
        · obtain ⟨hL, hlt, hlp⟩ := tl_some hO htl (by omega)
          obtain ⟨hRr, hrt, hrp⟩ := tr_some hO htl (by omega)
          rcases w_or hcv hwd with ⟨xv, rfl, hxv⟩ | ⟨xv, rfl, hxv⟩
          · rcases w_or hcw hwd with ⟨xw, rfl, hxw⟩ | ⟨xw, rfl, hxw⟩
            · obtain ⟨a2, oa, -, hra2⟩ := rv_sub.mp hra
              obtain ⟨b2, ob, -, hrb2⟩ := rv_sub.mp hrb
              refine lv_iload hx hb d_V_order_8 (lv_at hl 2 rfl) ?_
              refine lv_sipush (v := 160) hx hb d_V_order_10 (by decide) ?_
              refine lv_icmp_ge (tgt := 176) hx hb d_V_order_13 (by decide) (fun c100 => absurd c100 (fun h9 => absurd ((nI_leI (a := 160) (b := k9) (by decide) (by omega)).mp h9) (by omega))) (fun c100 => ?_)
              refine lv_iload_n hx hb d_V_order_16 rfl (lv_at hl 3 rfl) ?_
              refine lv_bipush (v := 60) hx hb d_V_order_17 (by decide) ?_
              refine lv_icmp_ge (tgt := 176) hx hb d_V_order_19 (by decide) (fun c101 => absurd c101 (fun h9 => absurd ((nI_leI (a := 60) (b := dep) (by decide) (by omega)).mp h9) (by omega))) (fun c101 => ?_)
              refine lv_aload_n hx hb d_V_order_22 rfl (lv_at hl 0 rfl) ?_
              refine va_instNo (C := "ValueTrees$Choice") hx hb hown (ht _ q387) (hK.2.1 _ nc_Choice_Couple) (z_recv hK oa rfl) d_V_order_23 ?_
              refine lv_if_eq (tgt := 92) hx hb d_V_order_26 (by decide) (fun _ => ?_) (fun c102 => absurd c102 (by decide))
              refine lv_aload_n hx hb d_V_order_92 rfl (lv_at hl 0 rfl) ?_
              refine va_instE hx hb hown (ht _ q303) (z_recv hK oa rfl) d_V_order_93 ?_
              refine lv_if_eq (tgt := 163) hx hb d_V_order_96 (by decide) (fun c103 => absurd c103 (by decide)) (fun _ => ?_)
              refine lv_aload_n hx hb d_V_order_99 rfl (lv_at hl 0 rfl) ?_
              refine va_castE hx hb hown (ht _ q303) (z_recv hK oa rfl) d_V_order_100 ?_
              refine lv_astore (lv' := [(6, .ref a1), (3, .ref a1), (4, .ref b1), (5, .int (nI k9)), (2, .int (nI dep))]) hx hb d_V_order_103 hl (by decide) rfl (fun ls hl => ?_)
              refine lv_aload hx hb d_V_order_105 (lv_at hl 2 rfl) ?_
              refine va_instE hx hb hown (ht _ q303) (z_recv hK ob rfl) d_V_order_107 ?_
              refine lv_if_eq (tgt := 163) hx hb d_V_order_110 (by decide) (fun c104 => absurd c104 (by decide)) (fun _ => ?_)
              refine lv_aload hx hb d_V_order_113 (lv_at hl 2 rfl) ?_
              refine va_castE hx hb hown (ht _ q303) (z_recv hK ob rfl) d_V_order_115 ?_
              refine lv_astore (lv' := [(7, .ref b1), (6, .ref a1), (3, .ref a1), (4, .ref b1), (5, .int (nI k9)), (2, .int (nI dep))]) hx hb d_V_order_118 hl (by decide) rfl (fun ls hl => ?_)
              refine lv_aload hx hb d_V_order_120 (lv_at hl 1 rfl) ?_
              refine va_get (D := D) (ci := 4) (v := .int 0) (C := "ValueTrees$Choice") (T := T_Choice) (N := 4) hx hb ht in_Choice hown hK.1 (z_1 oa) 0 rfl rfl 2 (by decide) (ht _ q310) (fun _ h9 => h9) rfl d_V_order_122 ?_
              refine lv_aload hx hb d_V_order_125 (lv_at hl 0 rfl) ?_
              refine va_get (D := D) (ci := 4) (v := .int 0) (C := "ValueTrees$Choice") (T := T_Choice) (N := 4) hx hb ht in_Choice hown hK.1 (z_1 ob) 0 rfl rfl 2 (by decide) (ht _ q310) (fun _ h9 => h9) rfl d_V_order_127 ?_
              refine lv_icmp_eq (tgt := 147) hx hb d_V_order_130 (by decide) (fun _ => ?_) (fun c105 => absurd c105 (by decide))
              refine lv_aload hx hb d_V_order_147 (lv_at hl 1 rfl) ?_
              refine va_get (D := D) (ci := 4) (v := .ref a2) (C := "ValueTrees$Choice") (T := T_Choice) (N := 4) hx hb ht in_Choice hown hK.1 (z_1 oa) 0 rfl rfl 3 (by decide) (ht _ q312) (fun _ h9 => h9) rfl d_V_order_149 ?_
              refine lv_astore_n (lv' := [(3, .ref a2), (7, .ref b1), (6, .ref a1), (4, .ref b1), (5, .int (nI k9)), (2, .int (nI dep))]) hx hb d_V_order_152 rfl hl (by decide) rfl (fun ls hl => ?_)
              refine lv_aload hx hb d_V_order_153 (lv_at hl 1 rfl) ?_
              refine va_get (D := D) (ci := 4) (v := .ref b2) (C := "ValueTrees$Choice") (T := T_Choice) (N := 4) hx hb ht in_Choice hown hK.1 (z_1 ob) 0 rfl rfl 3 (by decide) (ht _ q312) (fun _ h9 => h9) rfl d_V_order_155 ?_
              refine lv_astore (lv' := [(4, .ref b2), (3, .ref a2), (7, .ref b1), (6, .ref a1), (5, .int (nI k9)), (2, .int (nI dep))]) hx hb d_V_order_158 hl (by decide) rfl (fun ls hl => ?_)
              refine lv_goto (tgt := 170) hx hb d_V_order_160 (by decide) ?_
              refine lv_iinc (v := (nI (k9 + 1))) (lv' := [(5, .int (nI (k9 + 1))), (4, .ref b2), (3, .ref a2), (7, .ref b1), (6, .ref a1), (2, .int (nI dep))]) hx hb d_V_order_170 hl (k := 4) rfl (nI_1 k9) (by decide) rfl (fun ls hl => ?_)
              refine lv_goto (tgt := 8) hx hb d_V_order_173 (by decide) ?_
              exact ih8 (lt_ tb t1) xv xw a2 b2 (k9 + 1) (by omega) hcl hxv hxw hra2 hrb2 (by rw [l_sub] at hln; omega) (by rw [hvo]; rfl) (by omega)  ls (lv_sub hl [2, 1, 0, 5] rfl)
            · obtain ⟨a2, oa, -, hra2⟩ := rv_sub.mp hra
              obtain ⟨b2, ob, -, hrb2⟩ := rv_sub.mp hrb
              refine lv_iload hx hb d_V_order_8 (lv_at hl 2 rfl) ?_
              refine lv_sipush (v := 160) hx hb d_V_order_10 (by decide) ?_
              refine lv_icmp_ge (tgt := 176) hx hb d_V_order_13 (by decide) (fun c106 => absurd c106 (fun h9 => absurd ((nI_leI (a := 160) (b := k9) (by decide) (by omega)).mp h9) (by omega))) (fun c106 => ?_)
              refine lv_iload_n hx hb d_V_order_16 rfl (lv_at hl 3 rfl) ?_
              refine lv_bipush (v := 60) hx hb d_V_order_17 (by decide) ?_
              refine lv_icmp_ge (tgt := 176) hx hb d_V_order_19 (by decide) (fun c107 => absurd c107 (fun h9 => absurd ((nI_leI (a := 60) (b := dep) (by decide) (by omega)).mp h9) (by omega))) (fun c107 => ?_)
              refine lv_aload_n hx hb d_V_order_22 rfl (lv_at hl 0 rfl) ?_
              refine va_instNo (C := "ValueTrees$Choice") hx hb hown (ht _ q387) (hK.2.1 _ nc_Choice_Couple) (z_recv hK oa rfl) d_V_order_23 ?_
              refine lv_if_eq (tgt := 92) hx hb d_V_order_26 (by decide) (fun _ => ?_) (fun c108 => absurd c108 (by decide))
              refine lv_aload_n hx hb d_V_order_92 rfl (lv_at hl 0 rfl) ?_
              refine va_instE hx hb hown (ht _ q303) (z_recv hK oa rfl) d_V_order_93 ?_
              refine lv_if_eq (tgt := 163) hx hb d_V_order_96 (by decide) (fun c109 => absurd c109 (by decide)) (fun _ => ?_)
              refine lv_aload_n hx hb d_V_order_99 rfl (lv_at hl 0 rfl) ?_
              refine va_castE hx hb hown (ht _ q303) (z_recv hK oa rfl) d_V_order_100 ?_
              refine lv_astore (lv' := [(6, .ref a1), (3, .ref a1), (4, .ref b1), (5, .int (nI k9)), (2, .int (nI dep))]) hx hb d_V_order_103 hl (by decide) rfl (fun ls hl => ?_)
              refine lv_aload hx hb d_V_order_105 (lv_at hl 2 rfl) ?_
              refine va_instE hx hb hown (ht _ q303) (z_recv hK ob rfl) d_V_order_107 ?_
              refine lv_if_eq (tgt := 163) hx hb d_V_order_110 (by decide) (fun c110 => absurd c110 (by decide)) (fun _ => ?_)
              refine lv_aload hx hb d_V_order_113 (lv_at hl 2 rfl) ?_
              refine va_castE hx hb hown (ht _ q303) (z_recv hK ob rfl) d_V_order_115 ?_
              refine lv_astore (lv' := [(7, .ref b1), (6, .ref a1), (3, .ref a1), (4, .ref b1), (5, .int (nI k9)), (2, .int (nI dep))]) hx hb d_V_order_118 hl (by decide) rfl (fun ls hl => ?_)
              refine lv_aload hx hb d_V_order_120 (lv_at hl 1 rfl) ?_
              refine va_get (D := D) (ci := 4) (v := .int 0) (C := "ValueTrees$Choice") (T := T_Choice) (N := 4) hx hb ht in_Choice hown hK.1 (z_1 oa) 0 rfl rfl 2 (by decide) (ht _ q310) (fun _ h9 => h9) rfl d_V_order_122 ?_
              refine lv_aload hx hb d_V_order_125 (lv_at hl 0 rfl) ?_
              refine va_get (D := D) (ci := 4) (v := .int 1) (C := "ValueTrees$Choice") (T := T_Choice) (N := 4) hx hb ht in_Choice hown hK.1 (z_1 ob) 0 rfl rfl 2 (by decide) (ht _ q310) (fun _ h9 => h9) rfl d_V_order_127 ?_
              refine lv_icmp_eq (tgt := 147) hx hb d_V_order_130 (by decide) (fun c111 => absurd c111 (by decide)) (fun _ => ?_)
              refine lv_aload hx hb d_V_order_133 (lv_at hl 1 rfl) ?_
              refine va_get (D := D) (ci := 4) (v := .int 0) (C := "ValueTrees$Choice") (T := T_Choice) (N := 4) hx hb ht in_Choice hown hK.1 (z_1 oa) 0 rfl rfl 2 (by decide) (ht _ q310) (fun _ h9 => h9) rfl d_V_order_135 ?_
              refine lv_aload hx hb d_V_order_138 (lv_at hl 0 rfl) ?_
              refine va_get (D := D) (ci := 4) (v := .int 1) (C := "ValueTrees$Choice") (T := T_Choice) (N := 4) hx hb ht in_Choice hown hK.1 (z_1 ob) 0 rfl rfl 2 (by decide) (ht _ q310) (fun _ h9 => h9) rfl d_V_order_140 ?_
              refine z_callR (va_runS (As := [.int 0, .int 1]) (rest := []) ⟨hx, hb, hml, hown, hts⟩ (c_V_intOrder l D dT _ 0 1) ⟨callB_of 2 hts (gI gd_up gd_c q449) rfl rfl rfl (ht _ q1) (ht _ q447) hd_V_intOrder ⟨by show 0 + 1 ≤ d + 1 + 4; omega, by show 8 + (2 + 11) + 0 ≤ 40 * (d + 1) + 120; omega⟩, ht _ q448⟩ (z_preS hK) rfl rfl hl.1 rfl (lv_room (Nat.le_of_ble_eq_true rfl)) d_V_order_143 ⟨Nat.zero_le _, Nat.zero_le _⟩) (fun v113 hv112 => ?_)
              have hv112 : v113 = .int (-1) := hv112
              subst hv112
              exact z_iretR hx hb hr hlocks d_V_order_146 (by rw [hvo]; rfl)
          · rcases w_or hcw hwd with ⟨xw, rfl, hxw⟩ | ⟨xw, rfl, hxw⟩
            · obtain ⟨a2, oa, -, hra2⟩ := rv_sub.mp hra
              obtain ⟨b2, ob, -, hrb2⟩ := rv_sub.mp hrb
              refine lv_iload hx hb d_V_order_8 (lv_at hl 2 rfl) ?_
              refine lv_sipush (v := 160) hx hb d_V_order_10 (by decide) ?_
              refine lv_icmp_ge (tgt := 176) hx hb d_V_order_13 (by decide) (fun c114 => absurd c114 (fun h9 => absurd ((nI_leI (a := 160) (b := k9) (by decide) (by omega)).mp h9) (by omega))) (fun c114 => ?_)
              refine lv_iload_n hx hb d_V_order_16 rfl (lv_at hl 3 rfl) ?_
              refine lv_bipush (v := 60) hx hb d_V_order_17 (by decide) ?_
              refine lv_icmp_ge (tgt := 176) hx hb d_V_order_19 (by decide) (fun c115 => absurd c115 (fun h9 => absurd ((nI_leI (a := 60) (b := dep) (by decide) (by omega)).mp h9) (by omega))) (fun c115 => ?_)
              refine lv_aload_n hx hb d_V_order_22 rfl (lv_at hl 0 rfl) ?_
              refine va_instNo (C := "ValueTrees$Choice") hx hb hown (ht _ q387) (hK.2.1 _ nc_Choice_Couple) (z_recv hK oa rfl) d_V_order_23 ?_
              refine lv_if_eq (tgt := 92) hx hb d_V_order_26 (by decide) (fun _ => ?_) (fun c116 => absurd c116 (by decide))
              refine lv_aload_n hx hb d_V_order_92 rfl (lv_at hl 0 rfl) ?_
              refine va_instE hx hb hown (ht _ q303) (z_recv hK oa rfl) d_V_order_93 ?_
              refine lv_if_eq (tgt := 163) hx hb d_V_order_96 (by decide) (fun c117 => absurd c117 (by decide)) (fun _ => ?_)
              refine lv_aload_n hx hb d_V_order_99 rfl (lv_at hl 0 rfl) ?_
              refine va_castE hx hb hown (ht _ q303) (z_recv hK oa rfl) d_V_order_100 ?_
              refine lv_astore (lv' := [(6, .ref a1), (3, .ref a1), (4, .ref b1), (5, .int (nI k9)), (2, .int (nI dep))]) hx hb d_V_order_103 hl (by decide) rfl (fun ls hl => ?_)
              refine lv_aload hx hb d_V_order_105 (lv_at hl 2 rfl) ?_
              refine va_instE hx hb hown (ht _ q303) (z_recv hK ob rfl) d_V_order_107 ?_
              refine lv_if_eq (tgt := 163) hx hb d_V_order_110 (by decide) (fun c118 => absurd c118 (by decide)) (fun _ => ?_)
              refine lv_aload hx hb d_V_order_113 (lv_at hl 2 rfl) ?_
              refine va_castE hx hb hown (ht _ q303) (z_recv hK ob rfl) d_V_order_115 ?_
              refine lv_astore (lv' := [(7, .ref b1), (6, .ref a1), (3, .ref a1), (4, .ref b1), (5, .int (nI k9)), (2, .int (nI dep))]) hx hb d_V_order_118 hl (by decide) rfl (fun ls hl => ?_)
              refine lv_aload hx hb d_V_order_120 (lv_at hl 1 rfl) ?_
              refine va_get (D := D) (ci := 4) (v := .int 1) (C := "ValueTrees$Choice") (T := T_Choice) (N := 4) hx hb ht in_Choice hown hK.1 (z_1 oa) 0 rfl rfl 2 (by decide) (ht _ q310) (fun _ h9 => h9) rfl d_V_order_122 ?_
              refine lv_aload hx hb d_V_order_125 (lv_at hl 0 rfl) ?_
              refine va_get (D := D) (ci := 4) (v := .int 0) (C := "ValueTrees$Choice") (T := T_Choice) (N := 4) hx hb ht in_Choice hown hK.1 (z_1 ob) 0 rfl rfl 2 (by decide) (ht _ q310) (fun _ h9 => h9) rfl d_V_order_127 ?_
              refine lv_icmp_eq (tgt := 147) hx hb d_V_order_130 (by decide) (fun c119 => absurd c119 (by decide)) (fun _ => ?_)
              refine lv_aload hx hb d_V_order_133 (lv_at hl 1 rfl) ?_
              refine va_get (D := D) (ci := 4) (v := .int 1) (C := "ValueTrees$Choice") (T := T_Choice) (N := 4) hx hb ht in_Choice hown hK.1 (z_1 oa) 0 rfl rfl 2 (by decide) (ht _ q310) (fun _ h9 => h9) rfl d_V_order_135 ?_
              refine lv_aload hx hb d_V_order_138 (lv_at hl 0 rfl) ?_
              refine va_get (D := D) (ci := 4) (v := .int 0) (C := "ValueTrees$Choice") (T := T_Choice) (N := 4) hx hb ht in_Choice hown hK.1 (z_1 ob) 0 rfl rfl 2 (by decide) (ht _ q310) (fun _ h9 => h9) rfl d_V_order_140 ?_
              refine z_callR (va_runS (As := [.int 1, .int 0]) (rest := []) ⟨hx, hb, hml, hown, hts⟩ (c_V_intOrder l D dT _ 1 0) ⟨callB_of 2 hts (gI gd_up gd_c q449) rfl rfl rfl (ht _ q1) (ht _ q447) hd_V_intOrder ⟨by show 0 + 1 ≤ d + 1 + 4; omega, by show 8 + (2 + 11) + 0 ≤ 40 * (d + 1) + 120; omega⟩, ht _ q448⟩ (z_preS hK) rfl rfl hl.1 rfl (lv_room (Nat.le_of_ble_eq_true rfl)) d_V_order_143 ⟨Nat.zero_le _, Nat.zero_le _⟩) (fun v121 hv120 => ?_)
              have hv120 : v121 = .int 1 := hv120
              subst hv120
              exact z_iretR hx hb hr hlocks d_V_order_146 (by rw [hvo]; rfl)
            · obtain ⟨a2, oa, -, hra2⟩ := rv_sub.mp hra
              obtain ⟨b2, ob, -, hrb2⟩ := rv_sub.mp hrb
              refine lv_iload hx hb d_V_order_8 (lv_at hl 2 rfl) ?_
              refine lv_sipush (v := 160) hx hb d_V_order_10 (by decide) ?_
              refine lv_icmp_ge (tgt := 176) hx hb d_V_order_13 (by decide) (fun c122 => absurd c122 (fun h9 => absurd ((nI_leI (a := 160) (b := k9) (by decide) (by omega)).mp h9) (by omega))) (fun c122 => ?_)
              refine lv_iload_n hx hb d_V_order_16 rfl (lv_at hl 3 rfl) ?_
              refine lv_bipush (v := 60) hx hb d_V_order_17 (by decide) ?_
              refine lv_icmp_ge (tgt := 176) hx hb d_V_order_19 (by decide) (fun c123 => absurd c123 (fun h9 => absurd ((nI_leI (a := 60) (b := dep) (by decide) (by omega)).mp h9) (by omega))) (fun c123 => ?_)
              refine lv_aload_n hx hb d_V_order_22 rfl (lv_at hl 0 rfl) ?_
              refine va_instNo (C := "ValueTrees$Choice") hx hb hown (ht _ q387) (hK.2.1 _ nc_Choice_Couple) (z_recv hK oa rfl) d_V_order_23 ?_
              refine lv_if_eq (tgt := 92) hx hb d_V_order_26 (by decide) (fun _ => ?_) (fun c124 => absurd c124 (by decide))
              refine lv_aload_n hx hb d_V_order_92 rfl (lv_at hl 0 rfl) ?_
              refine va_instE hx hb hown (ht _ q303) (z_recv hK oa rfl) d_V_order_93 ?_
              refine lv_if_eq (tgt := 163) hx hb d_V_order_96 (by decide) (fun c125 => absurd c125 (by decide)) (fun _ => ?_)
              refine lv_aload_n hx hb d_V_order_99 rfl (lv_at hl 0 rfl) ?_
              refine va_castE hx hb hown (ht _ q303) (z_recv hK oa rfl) d_V_order_100 ?_
              refine lv_astore (lv' := [(6, .ref a1), (3, .ref a1), (4, .ref b1), (5, .int (nI k9)), (2, .int (nI dep))]) hx hb d_V_order_103 hl (by decide) rfl (fun ls hl => ?_)
              refine lv_aload hx hb d_V_order_105 (lv_at hl 2 rfl) ?_
              refine va_instE hx hb hown (ht _ q303) (z_recv hK ob rfl) d_V_order_107 ?_
              refine lv_if_eq (tgt := 163) hx hb d_V_order_110 (by decide) (fun c126 => absurd c126 (by decide)) (fun _ => ?_)
              refine lv_aload hx hb d_V_order_113 (lv_at hl 2 rfl) ?_
              refine va_castE hx hb hown (ht _ q303) (z_recv hK ob rfl) d_V_order_115 ?_
              refine lv_astore (lv' := [(7, .ref b1), (6, .ref a1), (3, .ref a1), (4, .ref b1), (5, .int (nI k9)), (2, .int (nI dep))]) hx hb d_V_order_118 hl (by decide) rfl (fun ls hl => ?_)
              refine lv_aload hx hb d_V_order_120 (lv_at hl 1 rfl) ?_
              refine va_get (D := D) (ci := 4) (v := .int 1) (C := "ValueTrees$Choice") (T := T_Choice) (N := 4) hx hb ht in_Choice hown hK.1 (z_1 oa) 0 rfl rfl 2 (by decide) (ht _ q310) (fun _ h9 => h9) rfl d_V_order_122 ?_
              refine lv_aload hx hb d_V_order_125 (lv_at hl 0 rfl) ?_
              refine va_get (D := D) (ci := 4) (v := .int 1) (C := "ValueTrees$Choice") (T := T_Choice) (N := 4) hx hb ht in_Choice hown hK.1 (z_1 ob) 0 rfl rfl 2 (by decide) (ht _ q310) (fun _ h9 => h9) rfl d_V_order_127 ?_
              refine lv_icmp_eq (tgt := 147) hx hb d_V_order_130 (by decide) (fun _ => ?_) (fun c127 => absurd c127 (by decide))
              refine lv_aload hx hb d_V_order_147 (lv_at hl 1 rfl) ?_
              refine va_get (D := D) (ci := 4) (v := .ref a2) (C := "ValueTrees$Choice") (T := T_Choice) (N := 4) hx hb ht in_Choice hown hK.1 (z_1 oa) 0 rfl rfl 3 (by decide) (ht _ q312) (fun _ h9 => h9) rfl d_V_order_149 ?_
              refine lv_astore_n (lv' := [(3, .ref a2), (7, .ref b1), (6, .ref a1), (4, .ref b1), (5, .int (nI k9)), (2, .int (nI dep))]) hx hb d_V_order_152 rfl hl (by decide) rfl (fun ls hl => ?_)
              refine lv_aload hx hb d_V_order_153 (lv_at hl 1 rfl) ?_
              refine va_get (D := D) (ci := 4) (v := .ref b2) (C := "ValueTrees$Choice") (T := T_Choice) (N := 4) hx hb ht in_Choice hown hK.1 (z_1 ob) 0 rfl rfl 3 (by decide) (ht _ q312) (fun _ h9 => h9) rfl d_V_order_155 ?_
              refine lv_astore (lv' := [(4, .ref b2), (3, .ref a2), (7, .ref b1), (6, .ref a1), (5, .int (nI k9)), (2, .int (nI dep))]) hx hb d_V_order_158 hl (by decide) rfl (fun ls hl => ?_)
              refine lv_goto (tgt := 170) hx hb d_V_order_160 (by decide) ?_
              refine lv_iinc (v := (nI (k9 + 1))) (lv' := [(5, .int (nI (k9 + 1))), (4, .ref b2), (3, .ref a2), (7, .ref b1), (6, .ref a1), (2, .int (nI dep))]) hx hb d_V_order_170 hl (k := 4) rfl (nI_1 k9) (by decide) rfl (fun ls hl => ?_)
              refine lv_goto (tgt := 8) hx hb d_V_order_173 (by decide) ?_
              exact ih8 (rt_ tb t1) xv xw a2 b2 (k9 + 1) (by omega) hcr hxv hxw hra2 hrb2 (by rw [l_sub] at hln; omega) (by rw [hvo]; rfl) (by omega)  ls (lv_sub hl [2, 1, 0, 5] rfl)
        · obtain ⟨hL, hlt, hlp⟩ := tl_some hO htl (by omega)
          obtain ⟨hRr, hrt, hrp⟩ := tr_some hO htl (by omega)
          obtain ⟨x, xv, rfl, hxx, hxv⟩ := w_pair hcv hwd
          obtain ⟨y, xw, rfl, hyy, hxw⟩ := w_pair hcw hwd
          obtain ⟨ax, a2, oa, -, hrx, hra2⟩ := rv_add.mp hra
          obtain ⟨bx, b2, ob, -, hry, hrb2⟩ := rv_add.mp hrb
          have hge2 := cs_ge hxv
          have hge3 := cs_ge hxx
          have hlen : (cs (.pow (.add x xv) t1)).length = 2 + (cs x).length + (cs xv).length := l_add
          refine lv_iload hx hb d_V_order_8 (lv_at hl 2 rfl) ?_
          refine lv_sipush (v := 160) hx hb d_V_order_10 (by decide) ?_
          refine lv_icmp_ge (tgt := 176) hx hb d_V_order_13 (by decide) (fun c128 => absurd c128 (fun h9 => absurd ((nI_leI (a := 160) (b := k9) (by decide) (by omega)).mp h9) (by omega))) (fun c128 => ?_)
          refine lv_iload_n hx hb d_V_order_16 rfl (lv_at hl 3 rfl) ?_
          refine lv_bipush (v := 60) hx hb d_V_order_17 (by decide) ?_
          refine lv_icmp_ge (tgt := 176) hx hb d_V_order_19 (by decide) (fun c129 => absurd c129 (fun h9 => absurd ((nI_leI (a := 60) (b := dep) (by decide) (by omega)).mp h9) (by omega))) (fun c129 => ?_)
          refine lv_aload_n hx hb d_V_order_22 rfl (lv_at hl 0 rfl) ?_
          refine va_instE hx hb hown (ht _ q387) (z_recv hK oa rfl) d_V_order_23 ?_
          refine lv_if_eq (tgt := 92) hx hb d_V_order_26 (by decide) (fun c130 => absurd c130 (by decide)) (fun _ => ?_)
          refine lv_aload_n hx hb d_V_order_29 rfl (lv_at hl 0 rfl) ?_
          refine va_castE hx hb hown (ht _ q387) (z_recv hK oa rfl) d_V_order_30 ?_
          refine lv_astore (lv' := [(8, .ref a1), (3, .ref a1), (4, .ref b1), (5, .int (nI k9)), (2, .int (nI dep))]) hx hb d_V_order_33 hl (by decide) rfl (fun ls hl => ?_)
          refine lv_aload hx hb d_V_order_35 (lv_at hl 2 rfl) ?_
          refine va_instE hx hb hown (ht _ q387) (z_recv hK ob rfl) d_V_order_37 ?_
          refine lv_if_eq (tgt := 92) hx hb d_V_order_40 (by decide) (fun c131 => absurd c131 (by decide)) (fun _ => ?_)
          refine lv_aload hx hb d_V_order_43 (lv_at hl 2 rfl) ?_
          refine va_castE hx hb hown (ht _ q387) (z_recv hK ob rfl) d_V_order_45 ?_
          refine lv_astore (lv' := [(9, .ref b1), (8, .ref a1), (3, .ref a1), (4, .ref b1), (5, .int (nI k9)), (2, .int (nI dep))]) hx hb d_V_order_48 hl (by decide) rfl (fun ls hl => ?_)
          refine lv_aload hx hb d_V_order_50 (lv_at hl 1 rfl) ?_
          refine va_get (D := D) (ci := 5) (v := .ref ax) (C := "ValueTrees$Couple") (T := T_Couple) (N := 4) hx hb ht in_Couple hown hK.1 (z_1 oa) 0 rfl rfl 2 (by decide) (ht _ q395) (fun _ h9 => h9) rfl d_V_order_52 ?_
          refine lv_aload hx hb d_V_order_55 (lv_at hl 0 rfl) ?_
          refine va_get (D := D) (ci := 5) (v := .ref bx) (C := "ValueTrees$Couple") (T := T_Couple) (N := 4) hx hb ht in_Couple hown hK.1 (z_1 ob) 0 rfl rfl 2 (by decide) (ht _ q395) (fun _ h9 => h9) rfl d_V_order_57 ?_
          refine lv_iload_n hx hb d_V_order_60 rfl (lv_at hl 5 rfl) ?_
          refine lv_iconst (v := 1) hx hb d_V_order_61 (by decide) ?_
          refine lv_iadd hx hb d_V_order_62 ?_
          rw [show (((nI dep) + 1) : Int32) = nI (dep + 1) from nI_add dep 1]
          refine z_callR (va_runS (As := [.ref ax, .ref bx, .int (nI (dep + 1))]) (rest := []) ⟨hx, hb, hml, hown, hts⟩ (ih (dep + 1) (lt_ tb t1) x y ax bx (by omega) hcl hxx hyy hrx hry (by omega) (by omega)) ⟨callB_of 3 hts (gI gd_up gd_c q446) rfl rfl rfl (ht _ q1) (ht _ q444) hd_V_order ⟨by show d + 4 + 1 ≤ d + 1 + 4; omega, by show 8 + (11 + 11) + 40 * d + 120 ≤ 40 * (d + 1) + 120; omega⟩, ht _ q445⟩ (z_preS hK) rfl rfl hl.1 rfl (lv_room (Nat.le_of_ble_eq_true rfl)) d_V_order_63 ⟨Nat.zero_le _, Nat.zero_le _⟩) (fun v133 hv132 => ?_)
          subst hv132
          refine lv_istore (lv' := [(10, .int (vo x y)), (9, .ref b1), (8, .ref a1), (3, .ref a1), (4, .ref b1), (5, .int (nI k9)), (2, .int (nI dep))]) hx hb d_V_order_66 hl (by decide) rfl (fun ls hl => ?_)
          refine lv_iload hx hb d_V_order_68 (lv_at hl 0 rfl) ?_
          refine lv_if_eq (tgt := 76) hx hb d_V_order_70 (by decide) (fun c134 => ?_) (fun c134 => ?_)
          · refine lv_aload hx hb d_V_order_76 (lv_at hl 2 rfl) ?_
            refine va_get (D := D) (ci := 5) (v := .ref a2) (C := "ValueTrees$Couple") (T := T_Couple) (N := 4) hx hb ht in_Couple hown hK.1 (z_1 oa) 0 rfl rfl 3 (by decide) (ht _ q397) (fun _ h9 => h9) rfl d_V_order_78 ?_
            refine lv_astore_n (lv' := [(3, .ref a2), (10, .int (vo x y)), (9, .ref b1), (8, .ref a1), (4, .ref b1), (5, .int (nI k9)), (2, .int (nI dep))]) hx hb d_V_order_81 rfl hl (by decide) rfl (fun ls hl => ?_)
            refine lv_aload hx hb d_V_order_82 (lv_at hl 2 rfl) ?_
            refine va_get (D := D) (ci := 5) (v := .ref b2) (C := "ValueTrees$Couple") (T := T_Couple) (N := 4) hx hb ht in_Couple hown hK.1 (z_1 ob) 0 rfl rfl 3 (by decide) (ht _ q397) (fun _ h9 => h9) rfl d_V_order_84 ?_
            refine lv_astore (lv' := [(4, .ref b2), (3, .ref a2), (10, .int (vo x y)), (9, .ref b1), (8, .ref a1), (5, .int (nI k9)), (2, .int (nI dep))]) hx hb d_V_order_87 hl (by decide) rfl (fun ls hl => ?_)
            refine lv_goto (tgt := 170) hx hb d_V_order_89 (by decide) ?_
            refine lv_iinc (v := (nI (k9 + 1))) (lv' := [(5, .int (nI (k9 + 1))), (4, .ref b2), (3, .ref a2), (10, .int (vo x y)), (9, .ref b1), (8, .ref a1), (2, .int (nI dep))]) hx hb d_V_order_170 hl (k := 5) rfl (nI_1 k9) (by decide) rfl (fun ls hl => ?_)
            refine lv_goto (tgt := 8) hx hb d_V_order_173 (by decide) ?_
            exact ih8 (rt_ tb t1) xv xw a2 b2 (k9 + 1) (by omega) hcr hxv hxw hra2 hrb2 (by omega) (by rw [hvo]; show (if vo x y = 0 then vo xv xw else vo x y) = _; rw [if_pos c134]) (by omega)  ls (lv_sub hl [2, 1, 0, 6] rfl)
          · refine lv_iload hx hb d_V_order_73 (lv_at hl 0 rfl) ?_
            exact z_iretR hx hb hr hlocks d_V_order_75 (by rw [hvo]; show _ = Value.int (if vo x y = 0 then vo xv xw else vo x y); rw [if_neg c134])
    exact loop1 (160 + 1) t v w9 a b 0 htl hcm hwv hww hra hrb (by omega) rfl (by omega)  ls (lv_sub hl [2, 1, 0, 5] rfl)
