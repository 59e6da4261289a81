abbrev b_V_marksOf : ByteArray := prog_1_method_39_code
abbrev y_V_marksOf : MethodName := ⟨"ValueTrees", "marksOf", "(III)I"⟩
abbrev w_V_marksOf : List Cond := .code y_V_marksOf b_V_marksOf 8 (Option.some .int) :: gt
theorem hd_V_marksOf : (y_V_marksOf).cls ≠ "java/lang/invoke/MethodHandle" ∧ (y_V_marksOf).cls ≠ "java/lang/invoke/VarHandle" ∧ (parseMethodDescriptor (y_V_marksOf).desc).map (fun d => d.parameters.length) = some 3 := by decide +kernel
theorem d_V_marksOf_0 : decode b_V_marksOf 0 = .ok (.iload_n 0, 1) := by decide +kernel
theorem d_V_marksOf_1 : decode b_V_marksOf 1 = .ok (.bipush 8, 2) := by decide +kernel
theorem d_V_marksOf_3 : decode b_V_marksOf 3 = .ok (.if_icmp .le 21, 3) := by decide +kernel
theorem d_V_marksOf_6 : decode b_V_marksOf 6 = .ok (.iload_n 0, 1) := by decide +kernel
theorem d_V_marksOf_7 : decode b_V_marksOf 7 = .ok (.bipush 10, 2) := by decide +kernel
theorem d_V_marksOf_9 : decode b_V_marksOf 9 = .ok (.if_icmp .eq 15, 3) := by decide +kernel
theorem d_V_marksOf_12 : decode b_V_marksOf 12 = .ok (.iload_n 0, 1) := by decide +kernel
theorem d_V_marksOf_13 : decode b_V_marksOf 13 = .ok (.bipush 14, 2) := by decide +kernel
theorem d_V_marksOf_15 : decode b_V_marksOf 15 = .ok (.if_icmp .eq 9, 3) := by decide +kernel
theorem d_V_marksOf_18 : decode b_V_marksOf 18 = .ok (.iload_n 0, 1) := by decide +kernel
theorem d_V_marksOf_19 : decode b_V_marksOf 19 = .ok (.bipush 18, 2) := by decide +kernel
theorem d_V_marksOf_21 : decode b_V_marksOf 21 = .ok (.if_icmp .ne 7, 3) := by decide +kernel
theorem d_V_marksOf_24 : decode b_V_marksOf 24 = .ok (.iconst 1, 1) := by decide +kernel
theorem d_V_marksOf_25 : decode b_V_marksOf 25 = .ok (.goto 4, 3) := by decide +kernel
theorem d_V_marksOf_28 : decode b_V_marksOf 28 = .ok (.iconst 0, 1) := by decide +kernel
theorem d_V_marksOf_29 : decode b_V_marksOf 29 = .ok (.istore_n 3, 1) := by decide +kernel
theorem d_V_marksOf_30 : decode b_V_marksOf 30 = .ok (.iload_n 0, 1) := by decide +kernel
theorem d_V_marksOf_31 : decode b_V_marksOf 31 = .ok (.bipush 9, 2) := by decide +kernel
theorem d_V_marksOf_33 : decode b_V_marksOf 33 = .ok (.if_icmp .eq 21, 3) := by decide +kernel
theorem d_V_marksOf_36 : decode b_V_marksOf 36 = .ok (.iload_n 0, 1) := by decide +kernel
theorem d_V_marksOf_37 : decode b_V_marksOf 37 = .ok (.bipush 13, 2) := by decide +kernel
theorem d_V_marksOf_39 : decode b_V_marksOf 39 = .ok (.if_icmp .eq 15, 3) := by decide +kernel
theorem d_V_marksOf_42 : decode b_V_marksOf 42 = .ok (.iload_n 0, 1) := by decide +kernel
theorem d_V_marksOf_43 : decode b_V_marksOf 43 = .ok (.bipush 16, 2) := by decide +kernel
theorem d_V_marksOf_45 : decode b_V_marksOf 45 = .ok (.if_icmp .eq 9, 3) := by decide +kernel
theorem d_V_marksOf_48 : decode b_V_marksOf 48 = .ok (.iload_n 0, 1) := by decide +kernel
theorem d_V_marksOf_49 : decode b_V_marksOf 49 = .ok (.bipush 17, 2) := by decide +kernel
theorem d_V_marksOf_51 : decode b_V_marksOf 51 = .ok (.if_icmp .ne 7, 3) := by decide +kernel
theorem d_V_marksOf_54 : decode b_V_marksOf 54 = .ok (.iconst 1, 1) := by decide +kernel
theorem d_V_marksOf_55 : decode b_V_marksOf 55 = .ok (.goto 4, 3) := by decide +kernel
theorem d_V_marksOf_58 : decode b_V_marksOf 58 = .ok (.iconst 0, 1) := by decide +kernel
theorem d_V_marksOf_59 : decode b_V_marksOf 59 = .ok (.istore 4, 2) := by decide +kernel
theorem d_V_marksOf_61 : decode b_V_marksOf 61 = .ok (.iload_n 3, 1) := by decide +kernel
theorem d_V_marksOf_62 : decode b_V_marksOf 62 = .ok (.ifCond .eq 9, 3) := by decide +kernel
theorem d_V_marksOf_65 : decode b_V_marksOf 65 = .ok (.iload_n 1, 1) := by decide +kernel
theorem d_V_marksOf_66 : decode b_V_marksOf 66 = .ok (.iconst 1, 1) := by decide +kernel
theorem d_V_marksOf_67 : decode b_V_marksOf 67 = .ok (.iand, 1) := by decide +kernel
theorem d_V_marksOf_68 : decode b_V_marksOf 68 = .ok (.goto 4, 3) := by decide +kernel
theorem d_V_marksOf_71 : decode b_V_marksOf 71 = .ok (.iconst 0, 1) := by decide +kernel
theorem d_V_marksOf_72 : decode b_V_marksOf 72 = .ok (.istore 5, 2) := by decide +kernel
theorem d_V_marksOf_74 : decode b_V_marksOf 74 = .ok (.iload 4, 2) := by decide +kernel
theorem d_V_marksOf_76 : decode b_V_marksOf 76 = .ok (.ifCond .ne 16, 3) := by decide +kernel
theorem d_V_marksOf_79 : decode b_V_marksOf 79 = .ok (.iload_n 1, 1) := by decide +kernel
theorem d_V_marksOf_80 : decode b_V_marksOf 80 = .ok (.iconst 2, 1) := by decide +kernel
theorem d_V_marksOf_81 : decode b_V_marksOf 81 = .ok (.iand, 1) := by decide +kernel
theorem d_V_marksOf_82 : decode b_V_marksOf 82 = .ok (.ifCond .eq 10, 3) := by decide +kernel
theorem d_V_marksOf_85 : decode b_V_marksOf 85 = .ok (.iload 5, 2) := by decide +kernel
theorem d_V_marksOf_87 : decode b_V_marksOf 87 = .ok (.iconst 2, 1) := by decide +kernel
theorem d_V_marksOf_88 : decode b_V_marksOf 88 = .ok (.ior, 1) := by decide +kernel
theorem d_V_marksOf_89 : decode b_V_marksOf 89 = .ok (.iconst 4, 1) := by decide +kernel
theorem d_V_marksOf_90 : decode b_V_marksOf 90 = .ok (.ior, 1) := by decide +kernel
theorem d_V_marksOf_91 : decode b_V_marksOf 91 = .ok (.ireturn, 1) := by decide +kernel
theorem d_V_marksOf_92 : decode b_V_marksOf 92 = .ok (.iload_n 0, 1) := by decide +kernel
theorem d_V_marksOf_93 : decode b_V_marksOf 93 = .ok (.bipush 16, 2) := by decide +kernel
theorem d_V_marksOf_95 : decode b_V_marksOf 95 = .ok (.if_icmp .ne 13, 3) := by decide +kernel
theorem d_V_marksOf_98 : decode b_V_marksOf 98 = .ok (.iload_n 2, 1) := by decide +kernel
theorem d_V_marksOf_99 : decode b_V_marksOf 99 = .ok (.iconst 2, 1) := by decide +kernel
theorem d_V_marksOf_100 : decode b_V_marksOf 100 = .ok (.iand, 1) := by decide +kernel
theorem d_V_marksOf_101 : decode b_V_marksOf 101 = .ok (.ifCond .eq 7, 3) := by decide +kernel
theorem d_V_marksOf_104 : decode b_V_marksOf 104 = .ok (.iconst 1, 1) := by decide +kernel
theorem d_V_marksOf_105 : decode b_V_marksOf 105 = .ok (.goto 4, 3) := by decide +kernel
theorem d_V_marksOf_108 : decode b_V_marksOf 108 = .ok (.iconst 0, 1) := by decide +kernel
theorem d_V_marksOf_109 : decode b_V_marksOf 109 = .ok (.istore 6, 2) := by decide +kernel
theorem d_V_marksOf_111 : decode b_V_marksOf 111 = .ok (.iload_n 0, 1) := by decide +kernel
theorem d_V_marksOf_112 : decode b_V_marksOf 112 = .ok (.bipush 18, 2) := by decide +kernel
theorem d_V_marksOf_114 : decode b_V_marksOf 114 = .ok (.if_icmp .ne 13, 3) := by decide +kernel
theorem d_V_marksOf_117 : decode b_V_marksOf 117 = .ok (.iload_n 1, 1) := by decide +kernel
theorem d_V_marksOf_118 : decode b_V_marksOf 118 = .ok (.iconst 4, 1) := by decide +kernel
theorem d_V_marksOf_119 : decode b_V_marksOf 119 = .ok (.iand, 1) := by decide +kernel
theorem d_V_marksOf_120 : decode b_V_marksOf 120 = .ok (.ifCond .eq 7, 3) := by decide +kernel
theorem d_V_marksOf_123 : decode b_V_marksOf 123 = .ok (.iconst 1, 1) := by decide +kernel
theorem d_V_marksOf_124 : decode b_V_marksOf 124 = .ok (.goto 4, 3) := by decide +kernel
theorem d_V_marksOf_127 : decode b_V_marksOf 127 = .ok (.iconst 0, 1) := by decide +kernel
theorem d_V_marksOf_128 : decode b_V_marksOf 128 = .ok (.istore 7, 2) := by decide +kernel
theorem d_V_marksOf_130 : decode b_V_marksOf 130 = .ok (.iload 6, 2) := by decide +kernel
theorem d_V_marksOf_132 : decode b_V_marksOf 132 = .ok (.ifCond .ne 8, 3) := by decide +kernel
theorem d_V_marksOf_135 : decode b_V_marksOf 135 = .ok (.iload 7, 2) := by decide +kernel
theorem d_V_marksOf_137 : decode b_V_marksOf 137 = .ok (.ifCond .eq 10, 3) := by decide +kernel
theorem d_V_marksOf_140 : decode b_V_marksOf 140 = .ok (.iload 5, 2) := by decide +kernel
theorem d_V_marksOf_142 : decode b_V_marksOf 142 = .ok (.iconst 4, 1) := by decide +kernel
theorem d_V_marksOf_143 : decode b_V_marksOf 143 = .ok (.ior, 1) := by decide +kernel
theorem d_V_marksOf_144 : decode b_V_marksOf 144 = .ok (.goto 5, 3) := by decide +kernel
theorem d_V_marksOf_147 : decode b_V_marksOf 147 = .ok (.iload 5, 2) := by decide +kernel
theorem d_V_marksOf_149 : decode b_V_marksOf 149 = .ok (.ireturn, 1) := by decide +kernel
set_option maxHeartbeats 4000000 in
set_option maxRecDepth 100000 in
theorem c_V_marksOf (l : Launch) (D : va_G) (dT : Nat → ClassId) (H : Heap) (wn a b : Nat) (hwn : wn ≤ 18) (ha8 : a < 8) (hb8 : b < 8) : Met l y_V_marksOf w_V_marksOf ({ frames := 0, cells := 0, slots := 0, locals := 0 }) (z_P D dT [.int (nI wn), .int (nI a), .int (nI b)] H) (z_R (fun v => v = .int (nI (mks wn a b)))) 0 0 (fun _ => False) := by
  refine Met.ofW (cc := b_V_marksOf) (maxL := 8) (ret := (Option.some .int)) (by decide) rfl ?_
  intro p e s m args below meth c s₁ B hml hv
  obtain ⟨rfl, rfl, hK⟩ := hv
  have hx := B.exec
  have hb := B.bytes
  have hr := B.returns
  have hts := atoms_spec (ws := w_V_marksOf) B.pre
  have ht : ∀ w9 ∈ gt, w9.before [.int (nI wn), .int (nI a), .int (nI b)].toArray s = true := fun w9 h => hts w9 (List.mem_cons_of_mem _ h)
  have hown : s.vm.findClass "ValueTrees" = some m.cls := findClass_of_methodNamed B.named
  have hlocks := B.notSynchronized
  have hl := lv_entry ([.int (nI wn), .int (nI a), .int (nI b)]) (n := 8) (Nat.le_of_ble_eq_true rfl)
  rw [lg_entry_eq]
  generalize (lg_sl ([.int (nI wn), .int (nI a), .int (nI b)]) ++ List.replicate (8 - (lg_sl ([.int (nI wn), .int (nI a), .int (nI b)])).length) Slot.unset).toArray = ls at hl ⊢
  have hl : lv_has ls 8 [(0, .int (nI wn)), (1, .int (nI a)), (2, .int (nI b))] := hl
  refine lv_iload_n hx hb d_V_marksOf_0 rfl (lv_at hl 0 rfl) ?_
  refine lv_bipush (v := 8) hx hb d_V_marksOf_1 (by decide) ?_
  refine lv_icmp_le (tgt := 24) hx hb d_V_marksOf_3 (by decide) (fun c1 => ?_) (fun c1 => ?_)
  · have nc1 : wn ≤ 8 := (nI_leI (a := wn) (b := 8) (by omega) (by omega)).mp c1
    refine lv_iconst (v := 1) hx hb d_V_marksOf_24 (by decide) ?_
    refine lv_goto (tgt := 29) hx hb d_V_marksOf_25 (by decide) ?_
    refine lv_istore_n (lv' := [(3, .int 1), (0, .int (nI wn)), (1, .int (nI a)), (2, .int (nI b))]) hx hb d_V_marksOf_29 rfl hl (by decide) rfl (fun ls hl => ?_)
    refine lv_iload_n hx hb d_V_marksOf_30 rfl (lv_at hl 1 rfl) ?_
    refine lv_bipush (v := 9) hx hb d_V_marksOf_31 (by decide) ?_
    refine lv_icmp_eq (tgt := 54) hx hb d_V_marksOf_33 (by decide) (fun c2 => absurd ((nI_eq (a := wn) (b := 9) (by omega) (by omega)).mp c2) (by omega)) (fun c2 => ?_)
    refine lv_iload_n hx hb d_V_marksOf_36 rfl (lv_at hl 1 rfl) ?_
    refine lv_bipush (v := 13) hx hb d_V_marksOf_37 (by decide) ?_
    refine lv_icmp_eq (tgt := 54) hx hb d_V_marksOf_39 (by decide) (fun c3 => absurd ((nI_eq (a := wn) (b := 13) (by omega) (by omega)).mp c3) (by omega)) (fun c3 => ?_)
    refine lv_iload_n hx hb d_V_marksOf_42 rfl (lv_at hl 1 rfl) ?_
    refine lv_bipush (v := 16) hx hb d_V_marksOf_43 (by decide) ?_
    refine lv_icmp_eq (tgt := 54) hx hb d_V_marksOf_45 (by decide) (fun c4 => absurd ((nI_eq (a := wn) (b := 16) (by omega) (by omega)).mp c4) (by omega)) (fun c4 => ?_)
    refine lv_iload_n hx hb d_V_marksOf_48 rfl (lv_at hl 1 rfl) ?_
    refine lv_bipush (v := 17) hx hb d_V_marksOf_49 (by decide) ?_
    refine lv_icmp_ne (tgt := 58) hx hb d_V_marksOf_51 (by decide) (fun c5 => ?_) (fun c5 => absurd ((nI_eq (a := wn) (b := 17) (by omega) (by omega)).mp c5) (by omega))
    refine lv_iconst (v := 0) hx hb d_V_marksOf_58 (by decide) ?_
    refine lv_istore (lv' := [(4, .int 0), (3, .int 1), (0, .int (nI wn)), (1, .int (nI a)), (2, .int (nI b))]) hx hb d_V_marksOf_59 hl (by decide) rfl (fun ls hl => ?_)
    refine lv_iload_n hx hb d_V_marksOf_61 rfl (lv_at hl 1 rfl) ?_
    refine lv_if_eq (tgt := 71) hx hb d_V_marksOf_62 (by decide) (fun c6 => absurd c6 (by decide)) (fun _ => ?_)
    refine lv_iload_n hx hb d_V_marksOf_65 rfl (lv_at hl 3 rfl) ?_
    refine lv_iconst (v := 1) hx hb d_V_marksOf_66 (by decide) ?_
    refine lv_iand hx hb d_V_marksOf_67 ?_
    rw [show (((nI a) &&& 1) : Int32) = nI (a % 2) from nI_and1 (n := a) (by omega)]
    refine lv_goto (tgt := 72) hx hb d_V_marksOf_68 (by decide) ?_
    refine lv_istore (lv' := [(5, .int (nI (a % 2))), (4, .int 0), (3, .int 1), (0, .int (nI wn)), (1, .int (nI a)), (2, .int (nI b))]) hx hb d_V_marksOf_72 hl (by decide) rfl (fun ls hl => ?_)
    refine lv_iload hx hb d_V_marksOf_74 (lv_at hl 1 rfl) ?_
    refine lv_if_ne (tgt := 92) hx hb d_V_marksOf_76 (by decide) (fun c7 => absurd c7 (by decide)) (fun _ => ?_)
    refine lv_iload_n hx hb d_V_marksOf_79 rfl (lv_at hl 4 rfl) ?_
    refine lv_iconst (v := 2) hx hb d_V_marksOf_80 (by decide) ?_
    refine lv_iand hx hb d_V_marksOf_81 ?_
    rw [show (((nI a) &&& 2) : Int32) = nI (a / 2 % 2 * 2) from nI_and2 (a := a) (by omega)]
    refine lv_if_eq (tgt := 92) hx hb d_V_marksOf_82 (by decide) (fun c8 => ?_) (fun c8 => ?_)
    · have nc8 : (a / 2 % 2 * 2) = 0 := (nI_eq (a := (a / 2 % 2 * 2)) (b := 0) (by omega) (by omega)).mp c8
      refine lv_iload_n hx hb d_V_marksOf_92 rfl (lv_at hl 3 rfl) ?_
      refine lv_bipush (v := 16) hx hb d_V_marksOf_93 (by decide) ?_
      refine lv_icmp_ne (tgt := 108) hx hb d_V_marksOf_95 (by decide) (fun c9 => ?_) (fun c9 => absurd ((nI_eq (a := wn) (b := 16) (by omega) (by omega)).mp c9) (by omega))
      refine lv_iconst (v := 0) hx hb d_V_marksOf_108 (by decide) ?_
      refine lv_istore (lv' := [(6, .int 0), (5, .int (nI (a % 2))), (4, .int 0), (3, .int 1), (0, .int (nI wn)), (1, .int (nI a)), (2, .int (nI b))]) hx hb d_V_marksOf_109 hl (by decide) rfl (fun ls hl => ?_)
      refine lv_iload_n hx hb d_V_marksOf_111 rfl (lv_at hl 4 rfl) ?_
      refine lv_bipush (v := 18) hx hb d_V_marksOf_112 (by decide) ?_
      refine lv_icmp_ne (tgt := 127) hx hb d_V_marksOf_114 (by decide) (fun c10 => ?_) (fun c10 => absurd ((nI_eq (a := wn) (b := 18) (by omega) (by omega)).mp c10) (by omega))
      refine lv_iconst (v := 0) hx hb d_V_marksOf_127 (by decide) ?_
      refine lv_istore (lv' := [(7, .int 0), (6, .int 0), (5, .int (nI (a % 2))), (4, .int 0), (3, .int 1), (0, .int (nI wn)), (1, .int (nI a)), (2, .int (nI b))]) hx hb d_V_marksOf_128 hl (by decide) rfl (fun ls hl => ?_)
      refine lv_iload hx hb d_V_marksOf_130 (lv_at hl 1 rfl) ?_
      refine lv_if_ne (tgt := 140) hx hb d_V_marksOf_132 (by decide) (fun c11 => absurd c11 (by decide)) (fun _ => ?_)
      refine lv_iload hx hb d_V_marksOf_135 (lv_at hl 0 rfl) ?_
      refine lv_if_eq (tgt := 147) hx hb d_V_marksOf_137 (by decide) (fun _ => ?_) (fun c12 => absurd c12 (by decide))
      refine lv_iload hx hb d_V_marksOf_147 (lv_at hl 2 rfl) ?_
      exact z_iretR hx hb hr hlocks d_V_marksOf_149 (show Value.int (nI (a % 2)) = _ from congrArg (fun q => Value.int (nI q)) (by unfold mks; (repeat (first | rw [if_pos (by omega)] | rw [if_neg (by omega)])); try omega))
    · have nc8 : ¬ (a / 2 % 2 * 2) = 0 := fun h9 => c8 ((nI_eq (a := (a / 2 % 2 * 2)) (b := 0) (by omega) (by omega)).mpr h9)
      refine lv_iload hx hb d_V_marksOf_85 (lv_at hl 0 rfl) ?_
      refine lv_iconst (v := 2) hx hb d_V_marksOf_87 (by decide) ?_
      refine lv_ior hx hb d_V_marksOf_88 ?_
      rw [show (((nI (a % 2)) ||| 2) : Int32) = nI ((a % 2) + 2) from nI_or2 (a := (a % 2)) (by omega)]
      refine lv_iconst (v := 4) hx hb d_V_marksOf_89 (by decide) ?_
      refine lv_ior hx hb d_V_marksOf_90 ?_
      rw [show (((nI ((a % 2) + 2)) ||| 4) : Int32) = nI (((a % 2) + 2) + 4) from nI_or4 (a := ((a % 2) + 2)) (by omega)]
      exact z_iretR hx hb hr hlocks d_V_marksOf_91 (show Value.int (nI (((a % 2) + 2) + 4)) = _ from congrArg (fun q => Value.int (nI q)) (by unfold mks; (repeat (first | rw [if_pos (by omega)] | rw [if_neg (by omega)])); try omega))
  · have nc1 : ¬ wn ≤ 8 := fun h9 => c1 ((nI_leI (a := wn) (b := 8) (by omega) (by omega)).mpr h9)
    refine lv_iload_n hx hb d_V_marksOf_6 rfl (lv_at hl 0 rfl) ?_
    refine lv_bipush (v := 10) hx hb d_V_marksOf_7 (by decide) ?_
    refine lv_icmp_eq (tgt := 24) hx hb d_V_marksOf_9 (by decide) (fun c13 => ?_) (fun c13 => ?_)
    · have nc13 : wn = 10 := (nI_eq (a := wn) (b := 10) (by omega) (by omega)).mp c13
      refine lv_iconst (v := 1) hx hb d_V_marksOf_24 (by decide) ?_
      refine lv_goto (tgt := 29) hx hb d_V_marksOf_25 (by decide) ?_
      refine lv_istore_n (lv' := [(3, .int 1), (0, .int (nI wn)), (1, .int (nI a)), (2, .int (nI b))]) hx hb d_V_marksOf_29 rfl hl (by decide) rfl (fun ls hl => ?_)
      refine lv_iload_n hx hb d_V_marksOf_30 rfl (lv_at hl 1 rfl) ?_
      refine lv_bipush (v := 9) hx hb d_V_marksOf_31 (by decide) ?_
      refine lv_icmp_eq (tgt := 54) hx hb d_V_marksOf_33 (by decide) (fun c14 => absurd ((nI_eq (a := wn) (b := 9) (by omega) (by omega)).mp c14) (by omega)) (fun c14 => ?_)
      refine lv_iload_n hx hb d_V_marksOf_36 rfl (lv_at hl 1 rfl) ?_
      refine lv_bipush (v := 13) hx hb d_V_marksOf_37 (by decide) ?_
      refine lv_icmp_eq (tgt := 54) hx hb d_V_marksOf_39 (by decide) (fun c15 => absurd ((nI_eq (a := wn) (b := 13) (by omega) (by omega)).mp c15) (by omega)) (fun c15 => ?_)
      refine lv_iload_n hx hb d_V_marksOf_42 rfl (lv_at hl 1 rfl) ?_
      refine lv_bipush (v := 16) hx hb d_V_marksOf_43 (by decide) ?_
      refine lv_icmp_eq (tgt := 54) hx hb d_V_marksOf_45 (by decide) (fun c16 => absurd ((nI_eq (a := wn) (b := 16) (by omega) (by omega)).mp c16) (by omega)) (fun c16 => ?_)
      refine lv_iload_n hx hb d_V_marksOf_48 rfl (lv_at hl 1 rfl) ?_
      refine lv_bipush (v := 17) hx hb d_V_marksOf_49 (by decide) ?_
      refine lv_icmp_ne (tgt := 58) hx hb d_V_marksOf_51 (by decide) (fun c17 => ?_) (fun c17 => absurd ((nI_eq (a := wn) (b := 17) (by omega) (by omega)).mp c17) (by omega))
      refine lv_iconst (v := 0) hx hb d_V_marksOf_58 (by decide) ?_
      refine lv_istore (lv' := [(4, .int 0), (3, .int 1), (0, .int (nI wn)), (1, .int (nI a)), (2, .int (nI b))]) hx hb d_V_marksOf_59 hl (by decide) rfl (fun ls hl => ?_)
      refine lv_iload_n hx hb d_V_marksOf_61 rfl (lv_at hl 1 rfl) ?_
      refine lv_if_eq (tgt := 71) hx hb d_V_marksOf_62 (by decide) (fun c18 => absurd c18 (by decide)) (fun _ => ?_)
      refine lv_iload_n hx hb d_V_marksOf_65 rfl (lv_at hl 3 rfl) ?_
      refine lv_iconst (v := 1) hx hb d_V_marksOf_66 (by decide) ?_
      refine lv_iand hx hb d_V_marksOf_67 ?_
      rw [show (((nI a) &&& 1) : Int32) = nI (a % 2) from nI_and1 (n := a) (by omega)]
      refine lv_goto (tgt := 72) hx hb d_V_marksOf_68 (by decide) ?_
      refine lv_istore (lv' := [(5, .int (nI (a % 2))), (4, .int 0), (3, .int 1), (0, .int (nI wn)), (1, .int (nI a)), (2, .int (nI b))]) hx hb d_V_marksOf_72 hl (by decide) rfl (fun ls hl => ?_)
      refine lv_iload hx hb d_V_marksOf_74 (lv_at hl 1 rfl) ?_
      refine lv_if_ne (tgt := 92) hx hb d_V_marksOf_76 (by decide) (fun c19 => absurd c19 (by decide)) (fun _ => ?_)
      refine lv_iload_n hx hb d_V_marksOf_79 rfl (lv_at hl 4 rfl) ?_
      refine lv_iconst (v := 2) hx hb d_V_marksOf_80 (by decide) ?_
      refine lv_iand hx hb d_V_marksOf_81 ?_
      rw [show (((nI a) &&& 2) : Int32) = nI (a / 2 % 2 * 2) from nI_and2 (a := a) (by omega)]
      refine lv_if_eq (tgt := 92) hx hb d_V_marksOf_82 (by decide) (fun c20 => ?_) (fun c20 => ?_)
      · have nc20 : (a / 2 % 2 * 2) = 0 := (nI_eq (a := (a / 2 % 2 * 2)) (b := 0) (by omega) (by omega)).mp c20
        refine lv_iload_n hx hb d_V_marksOf_92 rfl (lv_at hl 3 rfl) ?_
        refine lv_bipush (v := 16) hx hb d_V_marksOf_93 (by decide) ?_
        refine lv_icmp_ne (tgt := 108) hx hb d_V_marksOf_95 (by decide) (fun c21 => ?_) (fun c21 => absurd ((nI_eq (a := wn) (b := 16) (by omega) (by omega)).mp c21) (by omega))
        refine lv_iconst (v := 0) hx hb d_V_marksOf_108 (by decide) ?_
        refine lv_istore (lv' := [(6, .int 0), (5, .int (nI (a % 2))), (4, .int 0), (3, .int 1), (0, .int (nI wn)), (1, .int (nI a)), (2, .int (nI b))]) hx hb d_V_marksOf_109 hl (by decide) rfl (fun ls hl => ?_)
        refine lv_iload_n hx hb d_V_marksOf_111 rfl (lv_at hl 4 rfl) ?_
        refine lv_bipush (v := 18) hx hb d_V_marksOf_112 (by decide) ?_
        refine lv_icmp_ne (tgt := 127) hx hb d_V_marksOf_114 (by decide) (fun c22 => ?_) (fun c22 => absurd ((nI_eq (a := wn) (b := 18) (by omega) (by omega)).mp c22) (by omega))
        refine lv_iconst (v := 0) hx hb d_V_marksOf_127 (by decide) ?_
        refine lv_istore (lv' := [(7, .int 0), (6, .int 0), (5, .int (nI (a % 2))), (4, .int 0), (3, .int 1), (0, .int (nI wn)), (1, .int (nI a)), (2, .int (nI b))]) hx hb d_V_marksOf_128 hl (by decide) rfl (fun ls hl => ?_)
        refine lv_iload hx hb d_V_marksOf_130 (lv_at hl 1 rfl) ?_
        refine lv_if_ne (tgt := 140) hx hb d_V_marksOf_132 (by decide) (fun c23 => absurd c23 (by decide)) (fun _ => ?_)
        refine lv_iload hx hb d_V_marksOf_135 (lv_at hl 0 rfl) ?_
        refine lv_if_eq (tgt := 147) hx hb d_V_marksOf_137 (by decide) (fun _ => ?_) (fun c24 => absurd c24 (by decide))
        refine lv_iload hx hb d_V_marksOf_147 (lv_at hl 2 rfl) ?_
        exact z_iretR hx hb hr hlocks d_V_marksOf_149 (show Value.int (nI (a % 2)) = _ from congrArg (fun q => Value.int (nI q)) (by unfold mks; (repeat (first | rw [if_pos (by omega)] | rw [if_neg (by omega)])); try omega))
      · have nc20 : ¬ (a / 2 % 2 * 2) = 0 := fun h9 => c20 ((nI_eq (a := (a / 2 % 2 * 2)) (b := 0) (by omega) (by omega)).mpr h9)
        refine lv_iload hx hb d_V_marksOf_85 (lv_at hl 0 rfl) ?_
        refine lv_iconst (v := 2) hx hb d_V_marksOf_87 (by decide) ?_
        refine lv_ior hx hb d_V_marksOf_88 ?_
        rw [show (((nI (a % 2)) ||| 2) : Int32) = nI ((a % 2) + 2) from nI_or2 (a := (a % 2)) (by omega)]
        refine lv_iconst (v := 4) hx hb d_V_marksOf_89 (by decide) ?_
        refine lv_ior hx hb d_V_marksOf_90 ?_
        rw [show (((nI ((a % 2) + 2)) ||| 4) : Int32) = nI (((a % 2) + 2) + 4) from nI_or4 (a := ((a % 2) + 2)) (by omega)]
        exact z_iretR hx hb hr hlocks d_V_marksOf_91 (show Value.int (nI (((a % 2) + 2) + 4)) = _ from congrArg (fun q => Value.int (nI q)) (by unfold mks; (repeat (first | rw [if_pos (by omega)] | rw [if_neg (by omega)])); try omega))
    · have nc13 : ¬ wn = 10 := fun h9 => c13 ((nI_eq (a := wn) (b := 10) (by omega) (by omega)).mpr h9)
      refine lv_iload_n hx hb d_V_marksOf_12 rfl (lv_at hl 0 rfl) ?_
      refine lv_bipush (v := 14) hx hb d_V_marksOf_13 (by decide) ?_
      refine lv_icmp_eq (tgt := 24) hx hb d_V_marksOf_15 (by decide) (fun c25 => ?_) (fun c25 => ?_)
      · have nc25 : wn = 14 := (nI_eq (a := wn) (b := 14) (by omega) (by omega)).mp c25
        refine lv_iconst (v := 1) hx hb d_V_marksOf_24 (by decide) ?_
        refine lv_goto (tgt := 29) hx hb d_V_marksOf_25 (by decide) ?_
        refine lv_istore_n (lv' := [(3, .int 1), (0, .int (nI wn)), (1, .int (nI a)), (2, .int (nI b))]) hx hb d_V_marksOf_29 rfl hl (by decide) rfl (fun ls hl => ?_)
        refine lv_iload_n hx hb d_V_marksOf_30 rfl (lv_at hl 1 rfl) ?_
        refine lv_bipush (v := 9) hx hb d_V_marksOf_31 (by decide) ?_
        refine lv_icmp_eq (tgt := 54) hx hb d_V_marksOf_33 (by decide) (fun c26 => absurd ((nI_eq (a := wn) (b := 9) (by omega) (by omega)).mp c26) (by omega)) (fun c26 => ?_)
        refine lv_iload_n hx hb d_V_marksOf_36 rfl (lv_at hl 1 rfl) ?_
        refine lv_bipush (v := 13) hx hb d_V_marksOf_37 (by decide) ?_
        refine lv_icmp_eq (tgt := 54) hx hb d_V_marksOf_39 (by decide) (fun c27 => absurd ((nI_eq (a := wn) (b := 13) (by omega) (by omega)).mp c27) (by omega)) (fun c27 => ?_)
        refine lv_iload_n hx hb d_V_marksOf_42 rfl (lv_at hl 1 rfl) ?_
        refine lv_bipush (v := 16) hx hb d_V_marksOf_43 (by decide) ?_
        refine lv_icmp_eq (tgt := 54) hx hb d_V_marksOf_45 (by decide) (fun c28 => absurd ((nI_eq (a := wn) (b := 16) (by omega) (by omega)).mp c28) (by omega)) (fun c28 => ?_)
        refine lv_iload_n hx hb d_V_marksOf_48 rfl (lv_at hl 1 rfl) ?_
        refine lv_bipush (v := 17) hx hb d_V_marksOf_49 (by decide) ?_
        refine lv_icmp_ne (tgt := 58) hx hb d_V_marksOf_51 (by decide) (fun c29 => ?_) (fun c29 => absurd ((nI_eq (a := wn) (b := 17) (by omega) (by omega)).mp c29) (by omega))
        refine lv_iconst (v := 0) hx hb d_V_marksOf_58 (by decide) ?_
        refine lv_istore (lv' := [(4, .int 0), (3, .int 1), (0, .int (nI wn)), (1, .int (nI a)), (2, .int (nI b))]) hx hb d_V_marksOf_59 hl (by decide) rfl (fun ls hl => ?_)
        refine lv_iload_n hx hb d_V_marksOf_61 rfl (lv_at hl 1 rfl) ?_
        refine lv_if_eq (tgt := 71) hx hb d_V_marksOf_62 (by decide) (fun c30 => absurd c30 (by decide)) (fun _ => ?_)
        refine lv_iload_n hx hb d_V_marksOf_65 rfl (lv_at hl 3 rfl) ?_
        refine lv_iconst (v := 1) hx hb d_V_marksOf_66 (by decide) ?_
        refine lv_iand hx hb d_V_marksOf_67 ?_
        rw [show (((nI a) &&& 1) : Int32) = nI (a % 2) from nI_and1 (n := a) (by omega)]
        refine lv_goto (tgt := 72) hx hb d_V_marksOf_68 (by decide) ?_
        refine lv_istore (lv' := [(5, .int (nI (a % 2))), (4, .int 0), (3, .int 1), (0, .int (nI wn)), (1, .int (nI a)), (2, .int (nI b))]) hx hb d_V_marksOf_72 hl (by decide) rfl (fun ls hl => ?_)
        refine lv_iload hx hb d_V_marksOf_74 (lv_at hl 1 rfl) ?_
        refine lv_if_ne (tgt := 92) hx hb d_V_marksOf_76 (by decide) (fun c31 => absurd c31 (by decide)) (fun _ => ?_)
        refine lv_iload_n hx hb d_V_marksOf_79 rfl (lv_at hl 4 rfl) ?_
        refine lv_iconst (v := 2) hx hb d_V_marksOf_80 (by decide) ?_
        refine lv_iand hx hb d_V_marksOf_81 ?_
        rw [show (((nI a) &&& 2) : Int32) = nI (a / 2 % 2 * 2) from nI_and2 (a := a) (by omega)]
        refine lv_if_eq (tgt := 92) hx hb d_V_marksOf_82 (by decide) (fun c32 => ?_) (fun c32 => ?_)
        · have nc32 : (a / 2 % 2 * 2) = 0 := (nI_eq (a := (a / 2 % 2 * 2)) (b := 0) (by omega) (by omega)).mp c32
          refine lv_iload_n hx hb d_V_marksOf_92 rfl (lv_at hl 3 rfl) ?_
          refine lv_bipush (v := 16) hx hb d_V_marksOf_93 (by decide) ?_
          refine lv_icmp_ne (tgt := 108) hx hb d_V_marksOf_95 (by decide) (fun c33 => ?_) (fun c33 => absurd ((nI_eq (a := wn) (b := 16) (by omega) (by omega)).mp c33) (by omega))
          refine lv_iconst (v := 0) hx hb d_V_marksOf_108 (by decide) ?_
          refine lv_istore (lv' := [(6, .int 0), (5, .int (nI (a % 2))), (4, .int 0), (3, .int 1), (0, .int (nI wn)), (1, .int (nI a)), (2, .int (nI b))]) hx hb d_V_marksOf_109 hl (by decide) rfl (fun ls hl => ?_)
          refine lv_iload_n hx hb d_V_marksOf_111 rfl (lv_at hl 4 rfl) ?_
          refine lv_bipush (v := 18) hx hb d_V_marksOf_112 (by decide) ?_
          refine lv_icmp_ne (tgt := 127) hx hb d_V_marksOf_114 (by decide) (fun c34 => ?_) (fun c34 => absurd ((nI_eq (a := wn) (b := 18) (by omega) (by omega)).mp c34) (by omega))
          refine lv_iconst (v := 0) hx hb d_V_marksOf_127 (by decide) ?_
          refine lv_istore (lv' := [(7, .int 0), (6, .int 0), (5, .int (nI (a % 2))), (4, .int 0), (3, .int 1), (0, .int (nI wn)), (1, .int (nI a)), (2, .int (nI b))]) hx hb d_V_marksOf_128 hl (by decide) rfl (fun ls hl => ?_)
          refine lv_iload hx hb d_V_marksOf_130 (lv_at hl 1 rfl) ?_
          refine lv_if_ne (tgt := 140) hx hb d_V_marksOf_132 (by decide) (fun c35 => absurd c35 (by decide)) (fun _ => ?_)
          refine lv_iload hx hb d_V_marksOf_135 (lv_at hl 0 rfl) ?_
          refine lv_if_eq (tgt := 147) hx hb d_V_marksOf_137 (by decide) (fun _ => ?_) (fun c36 => absurd c36 (by decide))
          refine lv_iload hx hb d_V_marksOf_147 (lv_at hl 2 rfl) ?_
          exact z_iretR hx hb hr hlocks d_V_marksOf_149 (show Value.int (nI (a % 2)) = _ from congrArg (fun q => Value.int (nI q)) (by unfold mks; (repeat (first | rw [if_pos (by omega)] | rw [if_neg (by omega)])); try omega))
        · have nc32 : ¬ (a / 2 % 2 * 2) = 0 := fun h9 => c32 ((nI_eq (a := (a / 2 % 2 * 2)) (b := 0) (by omega) (by omega)).mpr h9)
          refine lv_iload hx hb d_V_marksOf_85 (lv_at hl 0 rfl) ?_
          refine lv_iconst (v := 2) hx hb d_V_marksOf_87 (by decide) ?_
          refine lv_ior hx hb d_V_marksOf_88 ?_
          rw [show (((nI (a % 2)) ||| 2) : Int32) = nI ((a % 2) + 2) from nI_or2 (a := (a % 2)) (by omega)]
          refine lv_iconst (v := 4) hx hb d_V_marksOf_89 (by decide) ?_
          refine lv_ior hx hb d_V_marksOf_90 ?_
          rw [show (((nI ((a % 2) + 2)) ||| 4) : Int32) = nI (((a % 2) + 2) + 4) from nI_or4 (a := ((a % 2) + 2)) (by omega)]
          exact z_iretR hx hb hr hlocks d_V_marksOf_91 (show Value.int (nI (((a % 2) + 2) + 4)) = _ from congrArg (fun q => Value.int (nI q)) (by unfold mks; (repeat (first | rw [if_pos (by omega)] | rw [if_neg (by omega)])); try omega))
      · have nc25 : ¬ wn = 14 := fun h9 => c25 ((nI_eq (a := wn) (b := 14) (by omega) (by omega)).mpr h9)
        refine lv_iload_n hx hb d_V_marksOf_18 rfl (lv_at hl 0 rfl) ?_
        refine lv_bipush (v := 18) hx hb d_V_marksOf_19 (by decide) ?_
        refine lv_icmp_ne (tgt := 28) hx hb d_V_marksOf_21 (by decide) (fun c37 => ?_) (fun c37 => ?_)
        · have nc37 : ¬ wn = 18 := fun h9 => c37 ((nI_eq (a := wn) (b := 18) (by omega) (by omega)).mpr h9)
          refine lv_iconst (v := 0) hx hb d_V_marksOf_28 (by decide) ?_
          refine lv_istore_n (lv' := [(3, .int 0), (0, .int (nI wn)), (1, .int (nI a)), (2, .int (nI b))]) hx hb d_V_marksOf_29 rfl hl (by decide) rfl (fun ls hl => ?_)
          refine lv_iload_n hx hb d_V_marksOf_30 rfl (lv_at hl 1 rfl) ?_
          refine lv_bipush (v := 9) hx hb d_V_marksOf_31 (by decide) ?_
          refine lv_icmp_eq (tgt := 54) hx hb d_V_marksOf_33 (by decide) (fun c38 => ?_) (fun c38 => ?_)
          · have nc38 : wn = 9 := (nI_eq (a := wn) (b := 9) (by omega) (by omega)).mp c38
            refine lv_iconst (v := 1) hx hb d_V_marksOf_54 (by decide) ?_
            refine lv_goto (tgt := 59) hx hb d_V_marksOf_55 (by decide) ?_
            refine lv_istore (lv' := [(4, .int 1), (3, .int 0), (0, .int (nI wn)), (1, .int (nI a)), (2, .int (nI b))]) hx hb d_V_marksOf_59 hl (by decide) rfl (fun ls hl => ?_)
            refine lv_iload_n hx hb d_V_marksOf_61 rfl (lv_at hl 1 rfl) ?_
            refine lv_if_eq (tgt := 71) hx hb d_V_marksOf_62 (by decide) (fun _ => ?_) (fun c39 => absurd c39 (by decide))
            refine lv_iconst (v := 0) hx hb d_V_marksOf_71 (by decide) ?_
            refine lv_istore (lv' := [(5, .int 0), (4, .int 1), (3, .int 0), (0, .int (nI wn)), (1, .int (nI a)), (2, .int (nI b))]) hx hb d_V_marksOf_72 hl (by decide) rfl (fun ls hl => ?_)
            refine lv_iload hx hb d_V_marksOf_74 (lv_at hl 1 rfl) ?_
            refine lv_if_ne (tgt := 92) hx hb d_V_marksOf_76 (by decide) (fun _ => ?_) (fun c40 => absurd c40 (by decide))
            refine lv_iload_n hx hb d_V_marksOf_92 rfl (lv_at hl 3 rfl) ?_
            refine lv_bipush (v := 16) hx hb d_V_marksOf_93 (by decide) ?_
            refine lv_icmp_ne (tgt := 108) hx hb d_V_marksOf_95 (by decide) (fun c41 => ?_) (fun c41 => absurd ((nI_eq (a := wn) (b := 16) (by omega) (by omega)).mp c41) (by omega))
            refine lv_iconst (v := 0) hx hb d_V_marksOf_108 (by decide) ?_
            refine lv_istore (lv' := [(6, .int 0), (5, .int 0), (4, .int 1), (3, .int 0), (0, .int (nI wn)), (1, .int (nI a)), (2, .int (nI b))]) hx hb d_V_marksOf_109 hl (by decide) rfl (fun ls hl => ?_)
            refine lv_iload_n hx hb d_V_marksOf_111 rfl (lv_at hl 4 rfl) ?_
            refine lv_bipush (v := 18) hx hb d_V_marksOf_112 (by decide) ?_
            refine lv_icmp_ne (tgt := 127) hx hb d_V_marksOf_114 (by decide) (fun c42 => ?_) (fun c42 => absurd ((nI_eq (a := wn) (b := 18) (by omega) (by omega)).mp c42) (by omega))
            refine lv_iconst (v := 0) hx hb d_V_marksOf_127 (by decide) ?_
            refine lv_istore (lv' := [(7, .int 0), (6, .int 0), (5, .int 0), (4, .int 1), (3, .int 0), (0, .int (nI wn)), (1, .int (nI a)), (2, .int (nI b))]) hx hb d_V_marksOf_128 hl (by decide) rfl (fun ls hl => ?_)
            refine lv_iload hx hb d_V_marksOf_130 (lv_at hl 1 rfl) ?_
            refine lv_if_ne (tgt := 140) hx hb d_V_marksOf_132 (by decide) (fun c43 => absurd c43 (by decide)) (fun _ => ?_)
            refine lv_iload hx hb d_V_marksOf_135 (lv_at hl 0 rfl) ?_
            refine lv_if_eq (tgt := 147) hx hb d_V_marksOf_137 (by decide) (fun _ => ?_) (fun c44 => absurd c44 (by decide))
            refine lv_iload hx hb d_V_marksOf_147 (lv_at hl 2 rfl) ?_
            exact z_iretR hx hb hr hlocks d_V_marksOf_149 (show Value.int (nI 0) = _ from congrArg (fun q => Value.int (nI q)) (by unfold mks; (repeat (first | rw [if_pos (by omega)] | rw [if_neg (by omega)])); try omega))
          · have nc38 : ¬ wn = 9 := fun h9 => c38 ((nI_eq (a := wn) (b := 9) (by omega) (by omega)).mpr h9)
            refine lv_iload_n hx hb d_V_marksOf_36 rfl (lv_at hl 1 rfl) ?_
            refine lv_bipush (v := 13) hx hb d_V_marksOf_37 (by decide) ?_
            refine lv_icmp_eq (tgt := 54) hx hb d_V_marksOf_39 (by decide) (fun c45 => ?_) (fun c45 => ?_)
            · have nc45 : wn = 13 := (nI_eq (a := wn) (b := 13) (by omega) (by omega)).mp c45
              refine lv_iconst (v := 1) hx hb d_V_marksOf_54 (by decide) ?_
              refine lv_goto (tgt := 59) hx hb d_V_marksOf_55 (by decide) ?_
              refine lv_istore (lv' := [(4, .int 1), (3, .int 0), (0, .int (nI wn)), (1, .int (nI a)), (2, .int (nI b))]) hx hb d_V_marksOf_59 hl (by decide) rfl (fun ls hl => ?_)
              refine lv_iload_n hx hb d_V_marksOf_61 rfl (lv_at hl 1 rfl) ?_
              refine lv_if_eq (tgt := 71) hx hb d_V_marksOf_62 (by decide) (fun _ => ?_) (fun c46 => absurd c46 (by decide))
              refine lv_iconst (v := 0) hx hb d_V_marksOf_71 (by decide) ?_
              refine lv_istore (lv' := [(5, .int 0), (4, .int 1), (3, .int 0), (0, .int (nI wn)), (1, .int (nI a)), (2, .int (nI b))]) hx hb d_V_marksOf_72 hl (by decide) rfl (fun ls hl => ?_)
              refine lv_iload hx hb d_V_marksOf_74 (lv_at hl 1 rfl) ?_
              refine lv_if_ne (tgt := 92) hx hb d_V_marksOf_76 (by decide) (fun _ => ?_) (fun c47 => absurd c47 (by decide))
              refine lv_iload_n hx hb d_V_marksOf_92 rfl (lv_at hl 3 rfl) ?_
              refine lv_bipush (v := 16) hx hb d_V_marksOf_93 (by decide) ?_
              refine lv_icmp_ne (tgt := 108) hx hb d_V_marksOf_95 (by decide) (fun c48 => ?_) (fun c48 => absurd ((nI_eq (a := wn) (b := 16) (by omega) (by omega)).mp c48) (by omega))
              refine lv_iconst (v := 0) hx hb d_V_marksOf_108 (by decide) ?_
              refine lv_istore (lv' := [(6, .int 0), (5, .int 0), (4, .int 1), (3, .int 0), (0, .int (nI wn)), (1, .int (nI a)), (2, .int (nI b))]) hx hb d_V_marksOf_109 hl (by decide) rfl (fun ls hl => ?_)
              refine lv_iload_n hx hb d_V_marksOf_111 rfl (lv_at hl 4 rfl) ?_
              refine lv_bipush (v := 18) hx hb d_V_marksOf_112 (by decide) ?_
              refine lv_icmp_ne (tgt := 127) hx hb d_V_marksOf_114 (by decide) (fun c49 => ?_) (fun c49 => absurd ((nI_eq (a := wn) (b := 18) (by omega) (by omega)).mp c49) (by omega))
              refine lv_iconst (v := 0) hx hb d_V_marksOf_127 (by decide) ?_
              refine lv_istore (lv' := [(7, .int 0), (6, .int 0), (5, .int 0), (4, .int 1), (3, .int 0), (0, .int (nI wn)), (1, .int (nI a)), (2, .int (nI b))]) hx hb d_V_marksOf_128 hl (by decide) rfl (fun ls hl => ?_)
              refine lv_iload hx hb d_V_marksOf_130 (lv_at hl 1 rfl) ?_
              refine lv_if_ne (tgt := 140) hx hb d_V_marksOf_132 (by decide) (fun c50 => absurd c50 (by decide)) (fun _ => ?_)
              refine lv_iload hx hb d_V_marksOf_135 (lv_at hl 0 rfl) ?_
              refine lv_if_eq (tgt := 147) hx hb d_V_marksOf_137 (by decide) (fun _ => ?_) (fun c51 => absurd c51 (by decide))
              refine lv_iload hx hb d_V_marksOf_147 (lv_at hl 2 rfl) ?_
              exact z_iretR hx hb hr hlocks d_V_marksOf_149 (show Value.int (nI 0) = _ from congrArg (fun q => Value.int (nI q)) (by unfold mks; (repeat (first | rw [if_pos (by omega)] | rw [if_neg (by omega)])); try omega))
            · have nc45 : ¬ wn = 13 := fun h9 => c45 ((nI_eq (a := wn) (b := 13) (by omega) (by omega)).mpr h9)
              refine lv_iload_n hx hb d_V_marksOf_42 rfl (lv_at hl 1 rfl) ?_
              refine lv_bipush (v := 16) hx hb d_V_marksOf_43 (by decide) ?_
              refine lv_icmp_eq (tgt := 54) hx hb d_V_marksOf_45 (by decide) (fun c52 => ?_) (fun c52 => ?_)
              · have nc52 : wn = 16 := (nI_eq (a := wn) (b := 16) (by omega) (by omega)).mp c52
                refine lv_iconst (v := 1) hx hb d_V_marksOf_54 (by decide) ?_
                refine lv_goto (tgt := 59) hx hb d_V_marksOf_55 (by decide) ?_
                refine lv_istore (lv' := [(4, .int 1), (3, .int 0), (0, .int (nI wn)), (1, .int (nI a)), (2, .int (nI b))]) hx hb d_V_marksOf_59 hl (by decide) rfl (fun ls hl => ?_)
                refine lv_iload_n hx hb d_V_marksOf_61 rfl (lv_at hl 1 rfl) ?_
                refine lv_if_eq (tgt := 71) hx hb d_V_marksOf_62 (by decide) (fun _ => ?_) (fun c53 => absurd c53 (by decide))
                refine lv_iconst (v := 0) hx hb d_V_marksOf_71 (by decide) ?_
                refine lv_istore (lv' := [(5, .int 0), (4, .int 1), (3, .int 0), (0, .int (nI wn)), (1, .int (nI a)), (2, .int (nI b))]) hx hb d_V_marksOf_72 hl (by decide) rfl (fun ls hl => ?_)
                refine lv_iload hx hb d_V_marksOf_74 (lv_at hl 1 rfl) ?_
                refine lv_if_ne (tgt := 92) hx hb d_V_marksOf_76 (by decide) (fun _ => ?_) (fun c54 => absurd c54 (by decide))
                refine lv_iload_n hx hb d_V_marksOf_92 rfl (lv_at hl 3 rfl) ?_
                refine lv_bipush (v := 16) hx hb d_V_marksOf_93 (by decide) ?_
                refine lv_icmp_ne (tgt := 108) hx hb d_V_marksOf_95 (by decide) (fun c55 => absurd ((nI_eq (a := wn) (b := 16) (by omega) (by omega)).mpr (by omega)) c55) (fun c55 => ?_)
                refine lv_iload_n hx hb d_V_marksOf_98 rfl (lv_at hl 5 rfl) ?_
                refine lv_iconst (v := 2) hx hb d_V_marksOf_99 (by decide) ?_
                refine lv_iand hx hb d_V_marksOf_100 ?_
                rw [show (((nI b) &&& 2) : Int32) = nI (b / 2 % 2 * 2) from nI_and2 (a := b) (by omega)]
                refine lv_if_eq (tgt := 108) hx hb d_V_marksOf_101 (by decide) (fun c56 => ?_) (fun c56 => ?_)
                · have nc56 : (b / 2 % 2 * 2) = 0 := (nI_eq (a := (b / 2 % 2 * 2)) (b := 0) (by omega) (by omega)).mp c56
                  refine lv_iconst (v := 0) hx hb d_V_marksOf_108 (by decide) ?_
                  refine lv_istore (lv' := [(6, .int 0), (5, .int 0), (4, .int 1), (3, .int 0), (0, .int (nI wn)), (1, .int (nI a)), (2, .int (nI b))]) hx hb d_V_marksOf_109 hl (by decide) rfl (fun ls hl => ?_)
                  refine lv_iload_n hx hb d_V_marksOf_111 rfl (lv_at hl 4 rfl) ?_
                  refine lv_bipush (v := 18) hx hb d_V_marksOf_112 (by decide) ?_
                  refine lv_icmp_ne (tgt := 127) hx hb d_V_marksOf_114 (by decide) (fun c57 => ?_) (fun c57 => absurd ((nI_eq (a := wn) (b := 18) (by omega) (by omega)).mp c57) (by omega))
                  refine lv_iconst (v := 0) hx hb d_V_marksOf_127 (by decide) ?_
                  refine lv_istore (lv' := [(7, .int 0), (6, .int 0), (5, .int 0), (4, .int 1), (3, .int 0), (0, .int (nI wn)), (1, .int (nI a)), (2, .int (nI b))]) hx hb d_V_marksOf_128 hl (by decide) rfl (fun ls hl => ?_)
                  refine lv_iload hx hb d_V_marksOf_130 (lv_at hl 1 rfl) ?_
                  refine lv_if_ne (tgt := 140) hx hb d_V_marksOf_132 (by decide) (fun c58 => absurd c58 (by decide)) (fun _ => ?_)
                  refine lv_iload hx hb d_V_marksOf_135 (lv_at hl 0 rfl) ?_
                  refine lv_if_eq (tgt := 147) hx hb d_V_marksOf_137 (by decide) (fun _ => ?_) (fun c59 => absurd c59 (by decide))
                  refine lv_iload hx hb d_V_marksOf_147 (lv_at hl 2 rfl) ?_
                  exact z_iretR hx hb hr hlocks d_V_marksOf_149 (show Value.int (nI 0) = _ from congrArg (fun q => Value.int (nI q)) (by unfold mks; (repeat (first | rw [if_pos (by omega)] | rw [if_neg (by omega)])); try omega))
                · have nc56 : ¬ (b / 2 % 2 * 2) = 0 := fun h9 => c56 ((nI_eq (a := (b / 2 % 2 * 2)) (b := 0) (by omega) (by omega)).mpr h9)
                  refine lv_iconst (v := 1) hx hb d_V_marksOf_104 (by decide) ?_
                  refine lv_goto (tgt := 109) hx hb d_V_marksOf_105 (by decide) ?_
                  refine lv_istore (lv' := [(6, .int 1), (5, .int 0), (4, .int 1), (3, .int 0), (0, .int (nI wn)), (1, .int (nI a)), (2, .int (nI b))]) hx hb d_V_marksOf_109 hl (by decide) rfl (fun ls hl => ?_)
                  refine lv_iload_n hx hb d_V_marksOf_111 rfl (lv_at hl 4 rfl) ?_
                  refine lv_bipush (v := 18) hx hb d_V_marksOf_112 (by decide) ?_
                  refine lv_icmp_ne (tgt := 127) hx hb d_V_marksOf_114 (by decide) (fun c60 => ?_) (fun c60 => absurd ((nI_eq (a := wn) (b := 18) (by omega) (by omega)).mp c60) (by omega))
                  refine lv_iconst (v := 0) hx hb d_V_marksOf_127 (by decide) ?_
                  refine lv_istore (lv' := [(7, .int 0), (6, .int 1), (5, .int 0), (4, .int 1), (3, .int 0), (0, .int (nI wn)), (1, .int (nI a)), (2, .int (nI b))]) hx hb d_V_marksOf_128 hl (by decide) rfl (fun ls hl => ?_)
                  refine lv_iload hx hb d_V_marksOf_130 (lv_at hl 1 rfl) ?_
                  refine lv_if_ne (tgt := 140) hx hb d_V_marksOf_132 (by decide) (fun _ => ?_) (fun c61 => absurd c61 (by decide))
                  refine lv_iload hx hb d_V_marksOf_140 (lv_at hl 2 rfl) ?_
                  refine lv_iconst (v := 4) hx hb d_V_marksOf_142 (by decide) ?_
                  refine lv_ior hx hb d_V_marksOf_143 ?_
                  rw [show ((0 ||| 4) : Int32) = nI (0 + 4) from nI_or4 (a := 0) (by omega)]
                  refine lv_goto (tgt := 149) hx hb d_V_marksOf_144 (by decide) ?_
                  exact z_iretR hx hb hr hlocks d_V_marksOf_149 (show Value.int (nI (0 + 4)) = _ from congrArg (fun q => Value.int (nI q)) (by unfold mks; (repeat (first | rw [if_pos (by omega)] | rw [if_neg (by omega)])); try omega))
              · have nc52 : ¬ wn = 16 := fun h9 => c52 ((nI_eq (a := wn) (b := 16) (by omega) (by omega)).mpr h9)
                refine lv_iload_n hx hb d_V_marksOf_48 rfl (lv_at hl 1 rfl) ?_
                refine lv_bipush (v := 17) hx hb d_V_marksOf_49 (by decide) ?_
                refine lv_icmp_ne (tgt := 58) hx hb d_V_marksOf_51 (by decide) (fun c62 => ?_) (fun c62 => ?_)
                · have nc62 : ¬ wn = 17 := fun h9 => c62 ((nI_eq (a := wn) (b := 17) (by omega) (by omega)).mpr h9)
                  refine lv_iconst (v := 0) hx hb d_V_marksOf_58 (by decide) ?_
                  refine lv_istore (lv' := [(4, .int 0), (3, .int 0), (0, .int (nI wn)), (1, .int (nI a)), (2, .int (nI b))]) hx hb d_V_marksOf_59 hl (by decide) rfl (fun ls hl => ?_)
                  refine lv_iload_n hx hb d_V_marksOf_61 rfl (lv_at hl 1 rfl) ?_
                  refine lv_if_eq (tgt := 71) hx hb d_V_marksOf_62 (by decide) (fun _ => ?_) (fun c63 => absurd c63 (by decide))
                  refine lv_iconst (v := 0) hx hb d_V_marksOf_71 (by decide) ?_
                  refine lv_istore (lv' := [(5, .int 0), (4, .int 0), (3, .int 0), (0, .int (nI wn)), (1, .int (nI a)), (2, .int (nI b))]) hx hb d_V_marksOf_72 hl (by decide) rfl (fun ls hl => ?_)
                  refine lv_iload hx hb d_V_marksOf_74 (lv_at hl 1 rfl) ?_
                  refine lv_if_ne (tgt := 92) hx hb d_V_marksOf_76 (by decide) (fun c64 => absurd c64 (by decide)) (fun _ => ?_)
                  refine lv_iload_n hx hb d_V_marksOf_79 rfl (lv_at hl 4 rfl) ?_
                  refine lv_iconst (v := 2) hx hb d_V_marksOf_80 (by decide) ?_
                  refine lv_iand hx hb d_V_marksOf_81 ?_
                  rw [show (((nI a) &&& 2) : Int32) = nI (a / 2 % 2 * 2) from nI_and2 (a := a) (by omega)]
                  refine lv_if_eq (tgt := 92) hx hb d_V_marksOf_82 (by decide) (fun c65 => ?_) (fun c65 => ?_)
                  · have nc65 : (a / 2 % 2 * 2) = 0 := (nI_eq (a := (a / 2 % 2 * 2)) (b := 0) (by omega) (by omega)).mp c65
                    refine lv_iload_n hx hb d_V_marksOf_92 rfl (lv_at hl 3 rfl) ?_
                    refine lv_bipush (v := 16) hx hb d_V_marksOf_93 (by decide) ?_
                    refine lv_icmp_ne (tgt := 108) hx hb d_V_marksOf_95 (by decide) (fun c66 => ?_) (fun c66 => absurd ((nI_eq (a := wn) (b := 16) (by omega) (by omega)).mp c66) (by omega))
                    refine lv_iconst (v := 0) hx hb d_V_marksOf_108 (by decide) ?_
                    refine lv_istore (lv' := [(6, .int 0), (5, .int 0), (4, .int 0), (3, .int 0), (0, .int (nI wn)), (1, .int (nI a)), (2, .int (nI b))]) hx hb d_V_marksOf_109 hl (by decide) rfl (fun ls hl => ?_)
                    refine lv_iload_n hx hb d_V_marksOf_111 rfl (lv_at hl 4 rfl) ?_
                    refine lv_bipush (v := 18) hx hb d_V_marksOf_112 (by decide) ?_
                    refine lv_icmp_ne (tgt := 127) hx hb d_V_marksOf_114 (by decide) (fun c67 => ?_) (fun c67 => absurd ((nI_eq (a := wn) (b := 18) (by omega) (by omega)).mp c67) (by omega))
                    refine lv_iconst (v := 0) hx hb d_V_marksOf_127 (by decide) ?_
                    refine lv_istore (lv' := [(7, .int 0), (6, .int 0), (5, .int 0), (4, .int 0), (3, .int 0), (0, .int (nI wn)), (1, .int (nI a)), (2, .int (nI b))]) hx hb d_V_marksOf_128 hl (by decide) rfl (fun ls hl => ?_)
                    refine lv_iload hx hb d_V_marksOf_130 (lv_at hl 1 rfl) ?_
                    refine lv_if_ne (tgt := 140) hx hb d_V_marksOf_132 (by decide) (fun c68 => absurd c68 (by decide)) (fun _ => ?_)
                    refine lv_iload hx hb d_V_marksOf_135 (lv_at hl 0 rfl) ?_
                    refine lv_if_eq (tgt := 147) hx hb d_V_marksOf_137 (by decide) (fun _ => ?_) (fun c69 => absurd c69 (by decide))
                    refine lv_iload hx hb d_V_marksOf_147 (lv_at hl 2 rfl) ?_
                    exact z_iretR hx hb hr hlocks d_V_marksOf_149 (show Value.int (nI 0) = _ from congrArg (fun q => Value.int (nI q)) (by unfold mks; (repeat (first | rw [if_pos (by omega)] | rw [if_neg (by omega)])); try omega))
                  · have nc65 : ¬ (a / 2 % 2 * 2) = 0 := fun h9 => c65 ((nI_eq (a := (a / 2 % 2 * 2)) (b := 0) (by omega) (by omega)).mpr h9)
                    refine lv_iload hx hb d_V_marksOf_85 (lv_at hl 0 rfl) ?_
                    refine lv_iconst (v := 2) hx hb d_V_marksOf_87 (by decide) ?_
                    refine lv_ior hx hb d_V_marksOf_88 ?_
                    rw [show ((0 ||| 2) : Int32) = nI (0 + 2) from nI_or2 (a := 0) (by omega)]
                    refine lv_iconst (v := 4) hx hb d_V_marksOf_89 (by decide) ?_
                    refine lv_ior hx hb d_V_marksOf_90 ?_
                    rw [show (((nI (0 + 2)) ||| 4) : Int32) = nI ((0 + 2) + 4) from nI_or4 (a := (0 + 2)) (by omega)]
                    exact z_iretR hx hb hr hlocks d_V_marksOf_91 (show Value.int (nI ((0 + 2) + 4)) = _ from congrArg (fun q => Value.int (nI q)) (by unfold mks; (repeat (first | rw [if_pos (by omega)] | rw [if_neg (by omega)])); try omega))
                · have nc62 : wn = 17 := (nI_eq (a := wn) (b := 17) (by omega) (by omega)).mp c62
                  refine lv_iconst (v := 1) hx hb d_V_marksOf_54 (by decide) ?_
                  refine lv_goto (tgt := 59) hx hb d_V_marksOf_55 (by decide) ?_
                  refine lv_istore (lv' := [(4, .int 1), (3, .int 0), (0, .int (nI wn)), (1, .int (nI a)), (2, .int (nI b))]) hx hb d_V_marksOf_59 hl (by decide) rfl (fun ls hl => ?_)
                  refine lv_iload_n hx hb d_V_marksOf_61 rfl (lv_at hl 1 rfl) ?_
                  refine lv_if_eq (tgt := 71) hx hb d_V_marksOf_62 (by decide) (fun _ => ?_) (fun c70 => absurd c70 (by decide))
                  refine lv_iconst (v := 0) hx hb d_V_marksOf_71 (by decide) ?_
                  refine lv_istore (lv' := [(5, .int 0), (4, .int 1), (3, .int 0), (0, .int (nI wn)), (1, .int (nI a)), (2, .int (nI b))]) hx hb d_V_marksOf_72 hl (by decide) rfl (fun ls hl => ?_)
                  refine lv_iload hx hb d_V_marksOf_74 (lv_at hl 1 rfl) ?_
                  refine lv_if_ne (tgt := 92) hx hb d_V_marksOf_76 (by decide) (fun _ => ?_) (fun c71 => absurd c71 (by decide))
                  refine lv_iload_n hx hb d_V_marksOf_92 rfl (lv_at hl 3 rfl) ?_
                  refine lv_bipush (v := 16) hx hb d_V_marksOf_93 (by decide) ?_
                  refine lv_icmp_ne (tgt := 108) hx hb d_V_marksOf_95 (by decide) (fun c72 => ?_) (fun c72 => absurd ((nI_eq (a := wn) (b := 16) (by omega) (by omega)).mp c72) (by omega))
                  refine lv_iconst (v := 0) hx hb d_V_marksOf_108 (by decide) ?_
                  refine lv_istore (lv' := [(6, .int 0), (5, .int 0), (4, .int 1), (3, .int 0), (0, .int (nI wn)), (1, .int (nI a)), (2, .int (nI b))]) hx hb d_V_marksOf_109 hl (by decide) rfl (fun ls hl => ?_)
                  refine lv_iload_n hx hb d_V_marksOf_111 rfl (lv_at hl 4 rfl) ?_
                  refine lv_bipush (v := 18) hx hb d_V_marksOf_112 (by decide) ?_
                  refine lv_icmp_ne (tgt := 127) hx hb d_V_marksOf_114 (by decide) (fun c73 => ?_) (fun c73 => absurd ((nI_eq (a := wn) (b := 18) (by omega) (by omega)).mp c73) (by omega))
                  refine lv_iconst (v := 0) hx hb d_V_marksOf_127 (by decide) ?_
                  refine lv_istore (lv' := [(7, .int 0), (6, .int 0), (5, .int 0), (4, .int 1), (3, .int 0), (0, .int (nI wn)), (1, .int (nI a)), (2, .int (nI b))]) hx hb d_V_marksOf_128 hl (by decide) rfl (fun ls hl => ?_)
                  refine lv_iload hx hb d_V_marksOf_130 (lv_at hl 1 rfl) ?_
                  refine lv_if_ne (tgt := 140) hx hb d_V_marksOf_132 (by decide) (fun c74 => absurd c74 (by decide)) (fun _ => ?_)
                  refine lv_iload hx hb d_V_marksOf_135 (lv_at hl 0 rfl) ?_
                  refine lv_if_eq (tgt := 147) hx hb d_V_marksOf_137 (by decide) (fun _ => ?_) (fun c75 => absurd c75 (by decide))
                  refine lv_iload hx hb d_V_marksOf_147 (lv_at hl 2 rfl) ?_
                  exact z_iretR hx hb hr hlocks d_V_marksOf_149 (show Value.int (nI 0) = _ from congrArg (fun q => Value.int (nI q)) (by unfold mks; (repeat (first | rw [if_pos (by omega)] | rw [if_neg (by omega)])); try omega))
        · have nc37 : wn = 18 := (nI_eq (a := wn) (b := 18) (by omega) (by omega)).mp c37
          refine lv_iconst (v := 1) hx hb d_V_marksOf_24 (by decide) ?_
          refine lv_goto (tgt := 29) hx hb d_V_marksOf_25 (by decide) ?_
          refine lv_istore_n (lv' := [(3, .int 1), (0, .int (nI wn)), (1, .int (nI a)), (2, .int (nI b))]) hx hb d_V_marksOf_29 rfl hl (by decide) rfl (fun ls hl => ?_)
          refine lv_iload_n hx hb d_V_marksOf_30 rfl (lv_at hl 1 rfl) ?_
          refine lv_bipush (v := 9) hx hb d_V_marksOf_31 (by decide) ?_
          refine lv_icmp_eq (tgt := 54) hx hb d_V_marksOf_33 (by decide) (fun c76 => absurd ((nI_eq (a := wn) (b := 9) (by omega) (by omega)).mp c76) (by omega)) (fun c76 => ?_)
          refine lv_iload_n hx hb d_V_marksOf_36 rfl (lv_at hl 1 rfl) ?_
          refine lv_bipush (v := 13) hx hb d_V_marksOf_37 (by decide) ?_
          refine lv_icmp_eq (tgt := 54) hx hb d_V_marksOf_39 (by decide) (fun c77 => absurd ((nI_eq (a := wn) (b := 13) (by omega) (by omega)).mp c77) (by omega)) (fun c77 => ?_)
          refine lv_iload_n hx hb d_V_marksOf_42 rfl (lv_at hl 1 rfl) ?_
          refine lv_bipush (v := 16) hx hb d_V_marksOf_43 (by decide) ?_
          refine lv_icmp_eq (tgt := 54) hx hb d_V_marksOf_45 (by decide) (fun c78 => absurd ((nI_eq (a := wn) (b := 16) (by omega) (by omega)).mp c78) (by omega)) (fun c78 => ?_)
          refine lv_iload_n hx hb d_V_marksOf_48 rfl (lv_at hl 1 rfl) ?_
          refine lv_bipush (v := 17) hx hb d_V_marksOf_49 (by decide) ?_
          refine lv_icmp_ne (tgt := 58) hx hb d_V_marksOf_51 (by decide) (fun c79 => ?_) (fun c79 => absurd ((nI_eq (a := wn) (b := 17) (by omega) (by omega)).mp c79) (by omega))
          refine lv_iconst (v := 0) hx hb d_V_marksOf_58 (by decide) ?_
          refine lv_istore (lv' := [(4, .int 0), (3, .int 1), (0, .int (nI wn)), (1, .int (nI a)), (2, .int (nI b))]) hx hb d_V_marksOf_59 hl (by decide) rfl (fun ls hl => ?_)
          refine lv_iload_n hx hb d_V_marksOf_61 rfl (lv_at hl 1 rfl) ?_
          refine lv_if_eq (tgt := 71) hx hb d_V_marksOf_62 (by decide) (fun c80 => absurd c80 (by decide)) (fun _ => ?_)
          refine lv_iload_n hx hb d_V_marksOf_65 rfl (lv_at hl 3 rfl) ?_
          refine lv_iconst (v := 1) hx hb d_V_marksOf_66 (by decide) ?_
          refine lv_iand hx hb d_V_marksOf_67 ?_
          rw [show (((nI a) &&& 1) : Int32) = nI (a % 2) from nI_and1 (n := a) (by omega)]
          refine lv_goto (tgt := 72) hx hb d_V_marksOf_68 (by decide) ?_
          refine lv_istore (lv' := [(5, .int (nI (a % 2))), (4, .int 0), (3, .int 1), (0, .int (nI wn)), (1, .int (nI a)), (2, .int (nI b))]) hx hb d_V_marksOf_72 hl (by decide) rfl (fun ls hl => ?_)
          refine lv_iload hx hb d_V_marksOf_74 (lv_at hl 1 rfl) ?_
          refine lv_if_ne (tgt := 92) hx hb d_V_marksOf_76 (by decide) (fun c81 => absurd c81 (by decide)) (fun _ => ?_)
          refine lv_iload_n hx hb d_V_marksOf_79 rfl (lv_at hl 4 rfl) ?_
          refine lv_iconst (v := 2) hx hb d_V_marksOf_80 (by decide) ?_
          refine lv_iand hx hb d_V_marksOf_81 ?_
          rw [show (((nI a) &&& 2) : Int32) = nI (a / 2 % 2 * 2) from nI_and2 (a := a) (by omega)]
          refine lv_if_eq (tgt := 92) hx hb d_V_marksOf_82 (by decide) (fun c82 => ?_) (fun c82 => ?_)
          · have nc82 : (a / 2 % 2 * 2) = 0 := (nI_eq (a := (a / 2 % 2 * 2)) (b := 0) (by omega) (by omega)).mp c82
            refine lv_iload_n hx hb d_V_marksOf_92 rfl (lv_at hl 3 rfl) ?_
            refine lv_bipush (v := 16) hx hb d_V_marksOf_93 (by decide) ?_
            refine lv_icmp_ne (tgt := 108) hx hb d_V_marksOf_95 (by decide) (fun c83 => ?_) (fun c83 => absurd ((nI_eq (a := wn) (b := 16) (by omega) (by omega)).mp c83) (by omega))
            refine lv_iconst (v := 0) hx hb d_V_marksOf_108 (by decide) ?_
            refine lv_istore (lv' := [(6, .int 0), (5, .int (nI (a % 2))), (4, .int 0), (3, .int 1), (0, .int (nI wn)), (1, .int (nI a)), (2, .int (nI b))]) hx hb d_V_marksOf_109 hl (by decide) rfl (fun ls hl => ?_)
            refine lv_iload_n hx hb d_V_marksOf_111 rfl (lv_at hl 4 rfl) ?_
            refine lv_bipush (v := 18) hx hb d_V_marksOf_112 (by decide) ?_
            refine lv_icmp_ne (tgt := 127) hx hb d_V_marksOf_114 (by decide) (fun c84 => absurd ((nI_eq (a := wn) (b := 18) (by omega) (by omega)).mpr (by omega)) c84) (fun c84 => ?_)
            refine lv_iload_n hx hb d_V_marksOf_117 rfl (lv_at hl 5 rfl) ?_
            refine lv_iconst (v := 4) hx hb d_V_marksOf_118 (by decide) ?_
            refine lv_iand hx hb d_V_marksOf_119 ?_
            rw [show (((nI a) &&& 4) : Int32) = nI (a / 4 % 2 * 4) from nI_and4 (a := a) (by omega)]
            refine lv_if_eq (tgt := 127) hx hb d_V_marksOf_120 (by decide) (fun c85 => ?_) (fun c85 => ?_)
            · have nc85 : (a / 4 % 2 * 4) = 0 := (nI_eq (a := (a / 4 % 2 * 4)) (b := 0) (by omega) (by omega)).mp c85
              refine lv_iconst (v := 0) hx hb d_V_marksOf_127 (by decide) ?_
              refine lv_istore (lv' := [(7, .int 0), (6, .int 0), (5, .int (nI (a % 2))), (4, .int 0), (3, .int 1), (0, .int (nI wn)), (1, .int (nI a)), (2, .int (nI b))]) hx hb d_V_marksOf_128 hl (by decide) rfl (fun ls hl => ?_)
              refine lv_iload hx hb d_V_marksOf_130 (lv_at hl 1 rfl) ?_
              refine lv_if_ne (tgt := 140) hx hb d_V_marksOf_132 (by decide) (fun c86 => absurd c86 (by decide)) (fun _ => ?_)
              refine lv_iload hx hb d_V_marksOf_135 (lv_at hl 0 rfl) ?_
              refine lv_if_eq (tgt := 147) hx hb d_V_marksOf_137 (by decide) (fun _ => ?_) (fun c87 => absurd c87 (by decide))
              refine lv_iload hx hb d_V_marksOf_147 (lv_at hl 2 rfl) ?_
              exact z_iretR hx hb hr hlocks d_V_marksOf_149 (show Value.int (nI (a % 2)) = _ from congrArg (fun q => Value.int (nI q)) (by unfold mks; (repeat (first | rw [if_pos (by omega)] | rw [if_neg (by omega)])); try omega))
            · have nc85 : ¬ (a / 4 % 2 * 4) = 0 := fun h9 => c85 ((nI_eq (a := (a / 4 % 2 * 4)) (b := 0) (by omega) (by omega)).mpr h9)
              refine lv_iconst (v := 1) hx hb d_V_marksOf_123 (by decide) ?_
              refine lv_goto (tgt := 128) hx hb d_V_marksOf_124 (by decide) ?_
              refine lv_istore (lv' := [(7, .int 1), (6, .int 0), (5, .int (nI (a % 2))), (4, .int 0), (3, .int 1), (0, .int (nI wn)), (1, .int (nI a)), (2, .int (nI b))]) hx hb d_V_marksOf_128 hl (by decide) rfl (fun ls hl => ?_)
              refine lv_iload hx hb d_V_marksOf_130 (lv_at hl 1 rfl) ?_
              refine lv_if_ne (tgt := 140) hx hb d_V_marksOf_132 (by decide) (fun c88 => absurd c88 (by decide)) (fun _ => ?_)
              refine lv_iload hx hb d_V_marksOf_135 (lv_at hl 0 rfl) ?_
              refine lv_if_eq (tgt := 147) hx hb d_V_marksOf_137 (by decide) (fun c89 => absurd c89 (by decide)) (fun _ => ?_)
              refine lv_iload hx hb d_V_marksOf_140 (lv_at hl 2 rfl) ?_
              refine lv_iconst (v := 4) hx hb d_V_marksOf_142 (by decide) ?_
              refine lv_ior hx hb d_V_marksOf_143 ?_
              rw [show (((nI (a % 2)) ||| 4) : Int32) = nI ((a % 2) + 4) from nI_or4 (a := (a % 2)) (by omega)]
              refine lv_goto (tgt := 149) hx hb d_V_marksOf_144 (by decide) ?_
              exact z_iretR hx hb hr hlocks d_V_marksOf_149 (show Value.int (nI ((a % 2) + 4)) = _ from congrArg (fun q => Value.int (nI q)) (by unfold mks; (repeat (first | rw [if_pos (by omega)] | rw [if_neg (by omega)])); try omega))
          · have nc82 : ¬ (a / 2 % 2 * 2) = 0 := fun h9 => c82 ((nI_eq (a := (a / 2 % 2 * 2)) (b := 0) (by omega) (by omega)).mpr h9)
            refine lv_iload hx hb d_V_marksOf_85 (lv_at hl 0 rfl) ?_
            refine lv_iconst (v := 2) hx hb d_V_marksOf_87 (by decide) ?_
            refine lv_ior hx hb d_V_marksOf_88 ?_
            rw [show (((nI (a % 2)) ||| 2) : Int32) = nI ((a % 2) + 2) from nI_or2 (a := (a % 2)) (by omega)]
            refine lv_iconst (v := 4) hx hb d_V_marksOf_89 (by decide) ?_
            refine lv_ior hx hb d_V_marksOf_90 ?_
            rw [show (((nI ((a % 2) + 2)) ||| 4) : Int32) = nI (((a % 2) + 2) + 4) from nI_or4 (a := ((a % 2) + 2)) (by omega)]
            exact z_iretR hx hb hr hlocks d_V_marksOf_91 (show Value.int (nI (((a % 2) + 2) + 4)) = _ from congrArg (fun q => Value.int (nI q)) (by unfold mks; (repeat (first | rw [if_pos (by omega)] | rw [if_neg (by omega)])); try omega))
abbrev b_V_oneOf : ByteArray := prog_1_method_31_code
abbrev y_V_oneOf : MethodName := ⟨"ValueTrees", "oneOf", "(ILValueTrees$Value;LValueTrees$Value;)LValueTrees$Value;"⟩
abbrev w_V_oneOf : List Cond := .code y_V_oneOf b_V_oneOf 3 (Option.some (.object "ValueTrees$Value")) :: gt
theorem hd_V_oneOf : (y_V_oneOf).cls ≠ "java/lang/invoke/MethodHandle" ∧ (y_V_oneOf).cls ≠ "java/lang/invoke/VarHandle" ∧ (parseMethodDescriptor (y_V_oneOf).desc).map (fun d => d.parameters.length) = some 3 := by decide +kernel
theorem d_V_oneOf_0 : decode b_V_oneOf 0 = .ok (.iload_n 0, 1) := by decide +kernel
theorem d_V_oneOf_1 : decode b_V_oneOf 1 = .ok (.ifCond .ne 5, 3) := by decide +kernel
theorem d_V_oneOf_4 : decode b_V_oneOf 4 = .ok (.aload_n 1, 1) := by decide +kernel
theorem d_V_oneOf_5 : decode b_V_oneOf 5 = .ok (.areturn, 1) := by decide +kernel
theorem d_V_oneOf_6 : decode b_V_oneOf 6 = .ok (.iload_n 0, 1) := by decide +kernel
theorem d_V_oneOf_7 : decode b_V_oneOf 7 = .ok (.iconst 1, 1) := by decide +kernel
theorem d_V_oneOf_8 : decode b_V_oneOf 8 = .ok (.if_icmp .ne 7, 3) := by decide +kernel
theorem d_V_oneOf_11 : decode b_V_oneOf 11 = .ok (.aload_n 2, 1) := by decide +kernel
theorem d_V_oneOf_12 : decode b_V_oneOf 12 = .ok (.goto 4, 3) := by decide +kernel
theorem d_V_oneOf_15 : decode b_V_oneOf 15 = .ok (.aconst_null, 1) := by decide +kernel
theorem d_V_oneOf_16 : decode b_V_oneOf 16 = .ok (.areturn, 1) := by decide +kernel
set_option maxHeartbeats 4000000 in
set_option maxRecDepth 100000 in
theorem c_V_oneOf_rr (l : Launch) (D : va_G) (dT : Nat → ClassId) (H : Heap) (i : Int32) (x : Nat) (y : Nat) : Met l y_V_oneOf w_V_oneOf ({ frames := 0, cells := 0, slots := 0, locals := 0 }) (z_P D dT [.int i, .ref x, .ref y] H) (z_R (fun v => v = (if i = 0 then .ref x else if i = 1 then .ref y else .null))) 0 0 (fun _ => False) := by
  refine Met.ofW (cc := b_V_oneOf) (maxL := 3) (ret := (Option.some (.object "ValueTrees$Value"))) (by decide) rfl ?_
  intro p e s m args below meth c s₁ B hml hv
  obtain ⟨rfl, rfl, hK⟩ := hv
  have hx := B.exec
  have hb := B.bytes
  have hr := B.returns
  have hts := atoms_spec (ws := w_V_oneOf) B.pre
  have ht : ∀ w9 ∈ gt, w9.before [.int i, .ref x, .ref y].toArray s = true := fun w9 h => hts w9 (List.mem_cons_of_mem _ h)
  have hown : s.vm.findClass "ValueTrees" = some m.cls := findClass_of_methodNamed B.named
  have hlocks := B.notSynchronized
  have hl := lv_entry ([.int i, .ref x, .ref y]) (n := 3) (Nat.le_of_ble_eq_true rfl)
  rw [lg_entry_eq]
  generalize (lg_sl ([.int i, .ref x, .ref y]) ++ List.replicate (3 - (lg_sl ([.int i, .ref x, .ref y])).length) Slot.unset).toArray = ls at hl ⊢
  have hl : lv_has ls 3 [(0, .int i), (1, .ref x), (2, .ref y)] := hl
  refine lv_iload_n hx hb d_V_oneOf_0 rfl (lv_at hl 0 rfl) ?_
  refine lv_if_ne (tgt := 6) hx hb d_V_oneOf_1 (by decide) (fun c1 => ?_) (fun c1 => ?_)
  · refine lv_iload_n hx hb d_V_oneOf_6 rfl (lv_at hl 0 rfl) ?_
    refine lv_iconst (v := 1) hx hb d_V_oneOf_7 (by decide) ?_
    refine lv_icmp_ne (tgt := 15) hx hb d_V_oneOf_8 (by decide) (fun c2 => ?_) (fun c2 => ?_)
    · refine lv_null hx hb d_V_oneOf_15 ?_
      exact z_aretR hx hb hr hlocks d_V_oneOf_16 (Or.inl ⟨_, rfl⟩) (Or.inl rfl) (by repeat (first | rfl | rw [if_pos (by (revert c1 c2; simp only [inR, isNum, isRw, isTr, hasV, Int32.lt_iff_toInt_lt, Int32.le_iff_toInt_le, ← Int32.toInt_inj, Int32.reduceToInt, z_m1, z_m2]; (try intros); omega))] | rw [if_neg (by (revert c1 c2; simp only [inR, isNum, isRw, isTr, hasV, Int32.lt_iff_toInt_lt, Int32.le_iff_toInt_le, ← Int32.toInt_inj, Int32.reduceToInt, z_m1, z_m2]; (try intros); omega))]))
    · refine lv_aload_n hx hb d_V_oneOf_11 rfl (lv_at hl 2 rfl) ?_
      refine lv_goto (tgt := 16) hx hb d_V_oneOf_12 (by decide) ?_
      exact z_aretR hx hb hr hlocks d_V_oneOf_16 (Or.inl ⟨_, rfl⟩) (Or.inr ⟨_, rfl⟩) (by repeat (first | rfl | rw [if_pos (by (revert c1 c2; simp only [inR, isNum, isRw, isTr, hasV, Int32.lt_iff_toInt_lt, Int32.le_iff_toInt_le, ← Int32.toInt_inj, Int32.reduceToInt, z_m1, z_m2]; (try intros); omega))] | rw [if_neg (by (revert c1 c2; simp only [inR, isNum, isRw, isTr, hasV, Int32.lt_iff_toInt_lt, Int32.le_iff_toInt_le, ← Int32.toInt_inj, Int32.reduceToInt, z_m1, z_m2]; (try intros); omega))]))
  · refine lv_aload_n hx hb d_V_oneOf_4 rfl (lv_at hl 1 rfl) ?_
    exact z_aretR hx hb hr hlocks d_V_oneOf_5 (Or.inl ⟨_, rfl⟩) (Or.inr ⟨_, rfl⟩) (by repeat (first | rfl | rw [if_pos (by (revert c1; simp only [inR, isNum, isRw, isTr, hasV, Int32.lt_iff_toInt_lt, Int32.le_iff_toInt_le, ← Int32.toInt_inj, Int32.reduceToInt, z_m1, z_m2]; (try intros); omega))] | rw [if_neg (by (revert c1; simp only [inR, isNum, isRw, isTr, hasV, Int32.lt_iff_toInt_lt, Int32.le_iff_toInt_le, ← Int32.toInt_inj, Int32.reduceToInt, z_m1, z_m2]; (try intros); omega))]))
set_option maxHeartbeats 4000000 in
set_option maxRecDepth 100000 in
theorem c_V_oneOf_rn (l : Launch) (D : va_G) (dT : Nat → ClassId) (H : Heap) (i : Int32) (x : Nat) : Met l y_V_oneOf w_V_oneOf ({ frames := 0, cells := 0, slots := 0, locals := 0 }) (z_P D dT [.int i, .ref x, .null] H) (z_R (fun v => v = (if i = 0 then .ref x else if i = 1 then .null else .null))) 0 0 (fun _ => False) := by
  refine Met.ofW (cc := b_V_oneOf) (maxL := 3) (ret := (Option.some (.object "ValueTrees$Value"))) (by decide) rfl ?_
  intro p e s m args below meth c s₁ B hml hv
  obtain ⟨rfl, rfl, hK⟩ := hv
  have hx := B.exec
  have hb := B.bytes
  have hr := B.returns
  have hts := atoms_spec (ws := w_V_oneOf) B.pre
  have ht : ∀ w9 ∈ gt, w9.before [.int i, .ref x, .null].toArray s = true := fun w9 h => hts w9 (List.mem_cons_of_mem _ h)
  have hown : s.vm.findClass "ValueTrees" = some m.cls := findClass_of_methodNamed B.named
  have hlocks := B.notSynchronized
  have hl := lv_entry ([.int i, .ref x, .null]) (n := 3) (Nat.le_of_ble_eq_true rfl)
  rw [lg_entry_eq]
  generalize (lg_sl ([.int i, .ref x, .null]) ++ List.replicate (3 - (lg_sl ([.int i, .ref x, .null])).length) Slot.unset).toArray = ls at hl ⊢
  have hl : lv_has ls 3 [(0, .int i), (1, .ref x), (2, .null)] := hl
  refine lv_iload_n hx hb d_V_oneOf_0 rfl (lv_at hl 0 rfl) ?_
  refine lv_if_ne (tgt := 6) hx hb d_V_oneOf_1 (by decide) (fun c1 => ?_) (fun c1 => ?_)
  · refine lv_iload_n hx hb d_V_oneOf_6 rfl (lv_at hl 0 rfl) ?_
    refine lv_iconst (v := 1) hx hb d_V_oneOf_7 (by decide) ?_
    refine lv_icmp_ne (tgt := 15) hx hb d_V_oneOf_8 (by decide) (fun c2 => ?_) (fun c2 => ?_)
    · refine lv_null hx hb d_V_oneOf_15 ?_
      exact z_aretR hx hb hr hlocks d_V_oneOf_16 (Or.inl ⟨_, rfl⟩) (Or.inl rfl) (by repeat (first | rfl | rw [if_pos (by (revert c1 c2; simp only [inR, isNum, isRw, isTr, hasV, Int32.lt_iff_toInt_lt, Int32.le_iff_toInt_le, ← Int32.toInt_inj, Int32.reduceToInt, z_m1, z_m2]; (try intros); omega))] | rw [if_neg (by (revert c1 c2; simp only [inR, isNum, isRw, isTr, hasV, Int32.lt_iff_toInt_lt, Int32.le_iff_toInt_le, ← Int32.toInt_inj, Int32.reduceToInt, z_m1, z_m2]; (try intros); omega))]))
    · refine lv_aload_nN hx hb d_V_oneOf_11 rfl (lv_at hl 2 rfl) ?_
      refine lv_goto (tgt := 16) hx hb d_V_oneOf_12 (by decide) ?_
      exact z_aretR hx hb hr hlocks d_V_oneOf_16 (Or.inl ⟨_, rfl⟩) (Or.inl rfl) (by repeat (first | rfl | rw [if_pos (by (revert c1 c2; simp only [inR, isNum, isRw, isTr, hasV, Int32.lt_iff_toInt_lt, Int32.le_iff_toInt_le, ← Int32.toInt_inj, Int32.reduceToInt, z_m1, z_m2]; (try intros); omega))] | rw [if_neg (by (revert c1 c2; simp only [inR, isNum, isRw, isTr, hasV, Int32.lt_iff_toInt_lt, Int32.le_iff_toInt_le, ← Int32.toInt_inj, Int32.reduceToInt, z_m1, z_m2]; (try intros); omega))]))
  · refine lv_aload_n hx hb d_V_oneOf_4 rfl (lv_at hl 1 rfl) ?_
    exact z_aretR hx hb hr hlocks d_V_oneOf_5 (Or.inl ⟨_, rfl⟩) (Or.inr ⟨_, rfl⟩) (by repeat (first | rfl | rw [if_pos (by (revert c1; simp only [inR, isNum, isRw, isTr, hasV, Int32.lt_iff_toInt_lt, Int32.le_iff_toInt_le, ← Int32.toInt_inj, Int32.reduceToInt, z_m1, z_m2]; (try intros); omega))] | rw [if_neg (by (revert c1; simp only [inR, isNum, isRw, isTr, hasV, Int32.lt_iff_toInt_lt, Int32.le_iff_toInt_le, ← Int32.toInt_inj, Int32.reduceToInt, z_m1, z_m2]; (try intros); omega))]))
set_option maxHeartbeats 4000000 in
set_option maxRecDepth 100000 in
theorem c_V_oneOf_nn (l : Launch) (D : va_G) (dT : Nat → ClassId) (H : Heap) (i : Int32) : Met l y_V_oneOf w_V_oneOf ({ frames := 0, cells := 0, slots := 0, locals := 0 }) (z_P D dT [.int i, .null, .null] H) (z_R (fun v => v = (if i = 0 then .null else if i = 1 then .null else .null))) 0 0 (fun _ => False) := by
  refine Met.ofW (cc := b_V_oneOf) (maxL := 3) (ret := (Option.some (.object "ValueTrees$Value"))) (by decide) rfl ?_
  intro p e s m args below meth c s₁ B hml hv
  obtain ⟨rfl, rfl, hK⟩ := hv
  have hx := B.exec
  have hb := B.bytes
  have hr := B.returns
  have hts := atoms_spec (ws := w_V_oneOf) B.pre
  have ht : ∀ w9 ∈ gt, w9.before [.int i, .null, .null].toArray s = true := fun w9 h => hts w9 (List.mem_cons_of_mem _ h)
  have hown : s.vm.findClass "ValueTrees" = some m.cls := findClass_of_methodNamed B.named
  have hlocks := B.notSynchronized
  have hl := lv_entry ([.int i, .null, .null]) (n := 3) (Nat.le_of_ble_eq_true rfl)
  rw [lg_entry_eq]
  generalize (lg_sl ([.int i, .null, .null]) ++ List.replicate (3 - (lg_sl ([.int i, .null, .null])).length) Slot.unset).toArray = ls at hl ⊢
  have hl : lv_has ls 3 [(0, .int i), (1, .null), (2, .null)] := hl
  refine lv_iload_n hx hb d_V_oneOf_0 rfl (lv_at hl 0 rfl) ?_
  refine lv_if_ne (tgt := 6) hx hb d_V_oneOf_1 (by decide) (fun c1 => ?_) (fun c1 => ?_)
  · refine lv_iload_n hx hb d_V_oneOf_6 rfl (lv_at hl 0 rfl) ?_
    refine lv_iconst (v := 1) hx hb d_V_oneOf_7 (by decide) ?_
    refine lv_icmp_ne (tgt := 15) hx hb d_V_oneOf_8 (by decide) (fun c2 => ?_) (fun c2 => ?_)
    · refine lv_null hx hb d_V_oneOf_15 ?_
      exact z_aretR hx hb hr hlocks d_V_oneOf_16 (Or.inl ⟨_, rfl⟩) (Or.inl rfl) (by repeat (first | rfl | rw [if_pos (by (revert c1 c2; simp only [inR, isNum, isRw, isTr, hasV, Int32.lt_iff_toInt_lt, Int32.le_iff_toInt_le, ← Int32.toInt_inj, Int32.reduceToInt, z_m1, z_m2]; (try intros); omega))] | rw [if_neg (by (revert c1 c2; simp only [inR, isNum, isRw, isTr, hasV, Int32.lt_iff_toInt_lt, Int32.le_iff_toInt_le, ← Int32.toInt_inj, Int32.reduceToInt, z_m1, z_m2]; (try intros); omega))]))
    · refine lv_aload_nN hx hb d_V_oneOf_11 rfl (lv_at hl 2 rfl) ?_
      refine lv_goto (tgt := 16) hx hb d_V_oneOf_12 (by decide) ?_
      exact z_aretR hx hb hr hlocks d_V_oneOf_16 (Or.inl ⟨_, rfl⟩) (Or.inl rfl) (by repeat (first | rfl | rw [if_pos (by (revert c1 c2; simp only [inR, isNum, isRw, isTr, hasV, Int32.lt_iff_toInt_lt, Int32.le_iff_toInt_le, ← Int32.toInt_inj, Int32.reduceToInt, z_m1, z_m2]; (try intros); omega))] | rw [if_neg (by (revert c1 c2; simp only [inR, isNum, isRw, isTr, hasV, Int32.lt_iff_toInt_lt, Int32.le_iff_toInt_le, ← Int32.toInt_inj, Int32.reduceToInt, z_m1, z_m2]; (try intros); omega))]))
  · refine lv_aload_nN hx hb d_V_oneOf_4 rfl (lv_at hl 1 rfl) ?_
    exact z_aretR hx hb hr hlocks d_V_oneOf_5 (Or.inl ⟨_, rfl⟩) (Or.inl rfl) (by repeat (first | rfl | rw [if_pos (by (revert c1; simp only [inR, isNum, isRw, isTr, hasV, Int32.lt_iff_toInt_lt, Int32.le_iff_toInt_le, ← Int32.toInt_inj, Int32.reduceToInt, z_m1, z_m2]; (try intros); omega))] | rw [if_neg (by (revert c1; simp only [inR, isNum, isRw, isTr, hasV, Int32.lt_iff_toInt_lt, Int32.le_iff_toInt_le, ← Int32.toInt_inj, Int32.reduceToInt, z_m1, z_m2]; (try intros); omega))]))
abbrev b_V_bitsOf : ByteArray := prog_1_method_40_code
abbrev y_V_bitsOf : MethodName := ⟨"ValueTrees", "bitsOf", "(J)I"⟩
abbrev w_V_bitsOf : List Cond := .code y_V_bitsOf b_V_bitsOf 3 (Option.some .int) :: gt
theorem hd_V_bitsOf : (y_V_bitsOf).cls ≠ "java/lang/invoke/MethodHandle" ∧ (y_V_bitsOf).cls ≠ "java/lang/invoke/VarHandle" ∧ (parseMethodDescriptor (y_V_bitsOf).desc).map (fun d => d.parameters.length) = some 1 := by decide +kernel
theorem d_V_bitsOf_0 : decode b_V_bitsOf 0 = .ok (.iconst 0, 1) := by decide +kernel
theorem d_V_bitsOf_1 : decode b_V_bitsOf 1 = .ok (.istore_n 2, 1) := by decide +kernel
theorem d_V_bitsOf_2 : decode b_V_bitsOf 2 = .ok (.iload_n 2, 1) := by decide +kernel
theorem d_V_bitsOf_3 : decode b_V_bitsOf 3 = .ok (.bipush 64, 2) := by decide +kernel
theorem d_V_bitsOf_5 : decode b_V_bitsOf 5 = .ok (.if_icmp .ge 17, 3) := by decide +kernel
theorem d_V_bitsOf_8 : decode b_V_bitsOf 8 = .ok (.lload_n 0, 1) := by decide +kernel
theorem d_V_bitsOf_9 : decode b_V_bitsOf 9 = .ok (.iload_n 2, 1) := by decide +kernel
theorem d_V_bitsOf_10 : decode b_V_bitsOf 10 = .ok (.lushr, 1) := by decide +kernel
theorem d_V_bitsOf_11 : decode b_V_bitsOf 11 = .ok (.lconst 0, 1) := by decide +kernel
theorem d_V_bitsOf_12 : decode b_V_bitsOf 12 = .ok (.lcmp, 1) := by decide +kernel
theorem d_V_bitsOf_13 : decode b_V_bitsOf 13 = .ok (.ifCond .eq 9, 3) := by decide +kernel
theorem d_V_bitsOf_16 : decode b_V_bitsOf 16 = .ok (.iinc 2 1, 3) := by decide +kernel
theorem d_V_bitsOf_19 : decode b_V_bitsOf 19 = .ok (.goto (-17), 3) := by decide +kernel
theorem d_V_bitsOf_22 : decode b_V_bitsOf 22 = .ok (.iload_n 2, 1) := by decide +kernel
theorem d_V_bitsOf_23 : decode b_V_bitsOf 23 = .ok (.ireturn, 1) := by decide +kernel
set_option maxHeartbeats 4000000 in
set_option maxRecDepth 100000 in
theorem c_V_bitsOf (l : Launch) (D : va_G) (dT : Nat → ClassId) (H : Heap) (x : Int64) : Met l y_V_bitsOf w_V_bitsOf ({ frames := 0, cells := 0, slots := 0, locals := 0 }) (z_P D dT [.long x] H) (z_R (fun v => v = .int (nI (nb x.toUInt64.toNat)))) 0 0 (fun _ => False) := by
  refine Met.ofW (cc := b_V_bitsOf) (maxL := 3) (ret := (Option.some .int)) (by decide) rfl ?_
  intro p e s m args below meth c s₁ B hml hv
  obtain ⟨rfl, rfl, hK⟩ := hv
  have hx := B.exec
  have hb := B.bytes
  have hr := B.returns
  have hts := atoms_spec (ws := w_V_bitsOf) B.pre
  have ht : ∀ w9 ∈ gt, w9.before [.long x].toArray s = true := fun w9 h => hts w9 (List.mem_cons_of_mem _ h)
  have hown : s.vm.findClass "ValueTrees" = some m.cls := findClass_of_methodNamed B.named
  have hlocks := B.notSynchronized
  have hl := lv_entry ([.long x]) (n := 3) (Nat.le_of_ble_eq_true rfl)
  rw [lg_entry_eq]
  generalize (lg_sl ([.long x]) ++ List.replicate (3 - (lg_sl ([.long x])).length) Slot.unset).toArray = ls at hl ⊢
  have hl : lv_has ls 3 [(0, .long x)] := hl
  refine lv_iconst (v := 0) hx hb d_V_bitsOf_0 (by decide) ?_
  refine lv_istore_n (lv' := [(2, .int 0), (0, .long x)]) hx hb d_V_bitsOf_1 rfl hl (by decide) rfl (fun ls hl => ?_)
  have loop1 : ∀ (n29 : Nat) (k : Nat), (k ≤ 64) → (k = 0 ∨ ¬ x.toUInt64.toNat / 2 ^ (k - 1) = 0) → 64 - k < n29 → ∀ (ls : Array Slot), lv_has ls 3 [(2, .int (nI k)), (0, .long x)] → W p l e (headSpec w_V_bitsOf ({ frames := 0, cells := 0, slots := 0, locals := 0 })).room s m [.long x].toArray below meth c s.heap [] 0 0 (MQ below (z_R (fun v => v = .int (nI (nb x.toUInt64.toNat)))) [.long x].toArray s 0 0 (fun _ => False)) (F0 m 2 ls []) := by
    intro n29
    induction n29 with
    | zero =>
      intro k hk hk0 h29
      exact absurd h29 (Nat.not_lt_zero _)
    | succ n29 ih2 =>
      intro k hk hk0 h29  ls hl
      refine lv_iload_n hx hb d_V_bitsOf_2 rfl (lv_at hl 0 rfl) ?_
      refine lv_bipush (v := 64) hx hb d_V_bitsOf_3 (by decide) ?_
      refine lv_icmp_ge (tgt := 22) hx hb d_V_bitsOf_5 (by decide) (fun c2 => ?_) (fun c2 => ?_)
      · have nc2 : 64 ≤ k := (nI_leI (a := 64) (b := k) (by omega) (by omega)).mp c2
        refine lv_iload_n hx hb d_V_bitsOf_22 rfl (lv_at hl 0 rfl) ?_
        exact z_iretR hx hb hr hlocks d_V_bitsOf_23 (by rw [nb_of hk0 (by have e9 : k = 64 := (by omega); subst e9; exact Nat.div_eq_of_lt x.toUInt64.toNat_lt)])
      · have nc2 : ¬ 64 ≤ k := fun h9 => c2 ((nI_leI (a := 64) (b := k) (by omega) (by omega)).mpr h9)
        refine lv_lload_n hx hb d_V_bitsOf_8 rfl (lv_at hl 1 rfl) ?_
        refine lv_iload_n hx hb d_V_bitsOf_9 rfl (lv_at hl 0 rfl) ?_
        refine lv_lushr (v := (x.toUInt64 >>> ((nI k).toInt64.toUInt64 &&& Int64.toUInt64 63)).toInt64) hx hb d_V_bitsOf_10 rfl ?_
        refine lv_lconst (v := 0) hx hb d_V_bitsOf_11 (by decide) ?_
        refine z_lcmp hx hb d_V_bitsOf_12 ?_
        refine lv_if_eq (tgt := 22) hx hb d_V_bitsOf_13 (by decide) (fun c3 => ?_) (fun c3 => ?_)
        · refine lv_iload_n hx hb d_V_bitsOf_22 rfl (lv_at hl 0 rfl) ?_
          exact z_iretR hx hb hr hlocks d_V_bitsOf_23 (by rw [nb_of hk0 (by have h9 := c3; rw [lc_eq, u64_0, u64_shr x (by omega)] at h9; exact h9)])
        · refine lv_iinc (v := (nI (k + 1))) (lv' := [(2, .int (nI (k + 1))), (0, .long x)]) hx hb d_V_bitsOf_16 hl (k := 0) rfl (nI_1 k) (by decide) rfl (fun ls hl => ?_)
          refine lv_goto (tgt := 2) hx hb d_V_bitsOf_19 (by decide) ?_
          exact ih2 (k + 1) (by omega) (Or.inr (by rw [Nat.add_sub_cancel]; intro h9; apply c3; rw [lc_eq, u64_0, u64_shr x (by omega)]; exact h9)) (by omega)  ls (lv_sub hl [0, 1] rfl)
  exact loop1 (64 + 1) 0 (by omega) (Or.inl rfl) (by omega)  ls (lv_sub hl [0, 1] rfl)
abbrev b_Type_isMarked : ByteArray := prog_8_method_2_code
abbrev y_Type_isMarked : MethodName := ⟨"ValueTrees$Type", "isMarked", "(I)Z"⟩
abbrev w_Type_isMarked : List Cond := .code y_Type_isMarked b_Type_isMarked 2 (Option.some .boolean) :: gt
theorem hd_Type_isMarked : (y_Type_isMarked).cls ≠ "java/lang/invoke/MethodHandle" ∧ (y_Type_isMarked).cls ≠ "java/lang/invoke/VarHandle" ∧ (parseMethodDescriptor (y_Type_isMarked).desc).map (fun d => d.parameters.length) = some 1 := by decide +kernel
theorem d_Type_isMarked_0 : decode b_Type_isMarked 0 = .ok (.aload_n 0, 1) := by decide +kernel
theorem d_Type_isMarked_1 : decode b_Type_isMarked 1 = .ok (.getfield 22, 3) := by decide +kernel
theorem d_Type_isMarked_4 : decode b_Type_isMarked 4 = .ok (.iload_n 1, 1) := by decide +kernel
theorem d_Type_isMarked_5 : decode b_Type_isMarked 5 = .ok (.iand, 1) := by decide +kernel
theorem d_Type_isMarked_6 : decode b_Type_isMarked 6 = .ok (.ifCond .eq 7, 3) := by decide +kernel
theorem d_Type_isMarked_9 : decode b_Type_isMarked 9 = .ok (.iconst 1, 1) := by decide +kernel
theorem d_Type_isMarked_10 : decode b_Type_isMarked 10 = .ok (.goto 4, 3) := by decide +kernel
theorem d_Type_isMarked_13 : decode b_Type_isMarked 13 = .ok (.iconst 0, 1) := by decide +kernel
theorem d_Type_isMarked_14 : decode b_Type_isMarked 14 = .ok (.ireturn, 1) := by decide +kernel
set_option maxHeartbeats 4000000 in
set_option maxRecDepth 100000 in
theorem c_Type_isMarked (l : Launch) (D : va_G) (dT : Nat → ClassId) (H : Heap) (a : Nat) (r : TR) (oa : va_at D cls (a, .inr (1, tyF r)) H) : Met l y_Type_isMarked w_Type_isMarked ({ frames := 0, cells := 0, slots := 0, locals := 0 }) (z_P D dT [.ref a, .int 1] H) (z_R (fun v => v = .int (if tC r = true then 1 else 0))) 0 0 (fun _ => False) := by
  refine Met.ofW (cc := b_Type_isMarked) (maxL := 2) (ret := (Option.some .boolean)) (by decide) rfl ?_
  intro p e s m args below meth c s₁ B hml hv
  obtain ⟨rfl, rfl, hK⟩ := hv
  have hx := B.exec
  have hb := B.bytes
  have hr := B.returns
  have hts := atoms_spec (ws := w_Type_isMarked) B.pre
  have ht : ∀ w9 ∈ gt, w9.before [.ref a, .int 1].toArray s = true := fun w9 h => hts w9 (List.mem_cons_of_mem _ h)
  have hown : s.vm.findClass "ValueTrees$Type" = some m.cls := findClass_of_methodNamed B.named
  have hlocks := B.notSynchronized
  have hl := lv_entry ([.ref a, .int 1]) (n := 2) (Nat.le_of_ble_eq_true rfl)
  rw [lg_entry_eq]
  generalize (lg_sl ([.ref a, .int 1]) ++ List.replicate (2 - (lg_sl ([.ref a, .int 1])).length) Slot.unset).toArray = ls at hl ⊢
  have hl : lv_has ls 2 [(0, .ref a), (1, .int 1)] := hl
  have hk8 := tK_lt r
  have hk1 := tK_1 r
  refine lv_aload_n hx hb d_Type_isMarked_0 rfl (lv_at hl 0 rfl) ?_
  refine va_get (D := D) (ci := 1) (v := .int (nI (tK r))) (C := "ValueTrees$Type") (T := T_Type) (N := 5) hx hb ht in_Type hown hK.1 (z_1 oa) 0 rfl rfl 4 (by decide) (ht _ q72) (fun _ h9 => h9) rfl d_Type_isMarked_1 ?_
  refine lv_iload_n hx hb d_Type_isMarked_4 rfl (lv_at hl 1 rfl) ?_
  refine lv_iand hx hb d_Type_isMarked_5 ?_
  rw [show (((nI (tK r)) &&& 1) : Int32) = nI ((tK r) % 2) from nI_and1 (n := (tK r)) (by omega)]
  refine lv_if_eq (tgt := 13) hx hb d_Type_isMarked_6 (by decide) (fun c1 => ?_) (fun c1 => ?_)
  · have nc1 : ((tK r) % 2) = 0 := (nI_eq (a := ((tK r) % 2)) (b := 0) (by omega) (by omega)).mp c1
    refine lv_iconst (v := 0) hx hb d_Type_isMarked_13 (by decide) ?_
    exact z_zretR hx hb hr hlocks d_Type_isMarked_14 rfl (by have h9 := nc1; rw [hk1] at h9; split at h9 <;> first | omega | (rename_i h8; first | rw [if_pos h8] | rw [if_neg h8]))
  · have nc1 : ¬ ((tK r) % 2) = 0 := fun h9 => c1 ((nI_eq (a := ((tK r) % 2)) (b := 0) (by omega) (by omega)).mpr h9)
    refine lv_iconst (v := 1) hx hb d_Type_isMarked_9 (by decide) ?_
    refine lv_goto (tgt := 14) hx hb d_Type_isMarked_10 (by decide) ?_
    exact z_zretR hx hb hr hlocks d_Type_isMarked_14 rfl (by have h9 := nc1; rw [hk1] at h9; split at h9 <;> first | omega | (rename_i h8; first | rw [if_pos h8] | rw [if_neg h8]))
abbrev b_Type_isLike : ByteArray := prog_8_method_3_code
abbrev y_Type_isLike : MethodName := ⟨"ValueTrees$Type", "isLike", "(LValueTrees$Type;)Z"⟩
abbrev w_Type_isLike : List Cond := .code y_Type_isLike b_Type_isLike 2 (Option.some .boolean) :: gt
theorem hd_Type_isLike : (y_Type_isLike).cls ≠ "java/lang/invoke/MethodHandle" ∧ (y_Type_isLike).cls ≠ "java/lang/invoke/VarHandle" ∧ (parseMethodDescriptor (y_Type_isLike).desc).map (fun d => d.parameters.length) = some 1 := by decide +kernel
theorem d_Type_isLike_0 : decode b_Type_isLike 0 = .ok (.aload_n 0, 1) := by decide +kernel
theorem d_Type_isLike_1 : decode b_Type_isLike 1 = .ok (.getfield 7, 3) := by decide +kernel
theorem d_Type_isLike_4 : decode b_Type_isLike 4 = .ok (.aload_n 1, 1) := by decide +kernel
theorem d_Type_isLike_5 : decode b_Type_isLike 5 = .ok (.getfield 7, 3) := by decide +kernel
theorem d_Type_isLike_8 : decode b_Type_isLike 8 = .ok (.if_icmp .ne 29, 3) := by decide +kernel
theorem d_Type_isLike_11 : decode b_Type_isLike 11 = .ok (.aload_n 0, 1) := by decide +kernel
theorem d_Type_isLike_12 : decode b_Type_isLike 12 = .ok (.getfield 13, 3) := by decide +kernel
theorem d_Type_isLike_15 : decode b_Type_isLike 15 = .ok (.aload_n 1, 1) := by decide +kernel
theorem d_Type_isLike_16 : decode b_Type_isLike 16 = .ok (.getfield 13, 3) := by decide +kernel
theorem d_Type_isLike_19 : decode b_Type_isLike 19 = .ok (.if_icmp .ne 18, 3) := by decide +kernel
theorem d_Type_isLike_22 : decode b_Type_isLike 22 = .ok (.aload_n 0, 1) := by decide +kernel
theorem d_Type_isLike_23 : decode b_Type_isLike 23 = .ok (.getfield 16, 3) := by decide +kernel
theorem d_Type_isLike_26 : decode b_Type_isLike 26 = .ok (.aload_n 1, 1) := by decide +kernel
theorem d_Type_isLike_27 : decode b_Type_isLike 27 = .ok (.getfield 16, 3) := by decide +kernel
theorem d_Type_isLike_30 : decode b_Type_isLike 30 = .ok (.if_icmp .ne 7, 3) := by decide +kernel
theorem d_Type_isLike_33 : decode b_Type_isLike 33 = .ok (.iconst 1, 1) := by decide +kernel
theorem d_Type_isLike_34 : decode b_Type_isLike 34 = .ok (.goto 4, 3) := by decide +kernel
theorem d_Type_isLike_37 : decode b_Type_isLike 37 = .ok (.iconst 0, 1) := by decide +kernel
theorem d_Type_isLike_38 : decode b_Type_isLike 38 = .ok (.ireturn, 1) := by decide +kernel
set_option maxHeartbeats 4000000 in
set_option maxRecDepth 100000 in
theorem c_Type_isLike (l : Launch) (D : va_G) (dT : Nat → ClassId) (H : Heap) (a d : Nat) (r u : TR) (oa : va_at D cls (a, .inr (1, tyF r)) H) (od : va_at D cls (d, .inr (1, tyF u)) H) (hr8 : tW r < 2 ^ 31) (hu8 : tW u < 2 ^ 31) : Met l y_Type_isLike w_Type_isLike ({ frames := 0, cells := 0, slots := 0, locals := 0 }) (z_P D dT [.ref a, .ref d] H) (z_R (fun v => v = .int (if tW r = tW u ∧ oI (tL r) = oI (tL u) ∧ oI (tR r) = oI (tR u) then 1 else 0))) 0 0 (fun _ => False) := by
  refine Met.ofW (cc := b_Type_isLike) (maxL := 2) (ret := (Option.some .boolean)) (by decide) rfl ?_
  intro p e s m args below meth c s₁ B hml hv
  obtain ⟨rfl, rfl, hK⟩ := hv
  have hx := B.exec
  have hb := B.bytes
  have hr := B.returns
  have hts := atoms_spec (ws := w_Type_isLike) B.pre
  have ht : ∀ w9 ∈ gt, w9.before [.ref a, .ref d].toArray s = true := fun w9 h => hts w9 (List.mem_cons_of_mem _ h)
  have hown : s.vm.findClass "ValueTrees$Type" = some m.cls := findClass_of_methodNamed B.named
  have hlocks := B.notSynchronized
  have hl := lv_entry ([.ref a, .ref d]) (n := 2) (Nat.le_of_ble_eq_true rfl)
  rw [lg_entry_eq]
  generalize (lg_sl ([.ref a, .ref d]) ++ List.replicate (2 - (lg_sl ([.ref a, .ref d])).length) Slot.unset).toArray = ls at hl ⊢
  have hl : lv_has ls 2 [(0, .ref a), (1, .ref d)] := hl
  refine lv_aload_n hx hb d_Type_isLike_0 rfl (lv_at hl 0 rfl) ?_
  refine va_get (D := D) (ci := 1) (v := .int (nI (tW r))) (C := "ValueTrees$Type") (T := T_Type) (N := 5) hx hb ht in_Type hown hK.1 (z_1 oa) 0 rfl rfl 0 (by decide) (ht _ q64) (fun _ h9 => h9) rfl d_Type_isLike_1 ?_
  refine lv_aload_n hx hb d_Type_isLike_4 rfl (lv_at hl 1 rfl) ?_
  refine va_get (D := D) (ci := 1) (v := .int (nI (tW u))) (C := "ValueTrees$Type") (T := T_Type) (N := 5) hx hb ht in_Type hown hK.1 (z_1 od) 0 rfl rfl 0 (by decide) (ht _ q64) (fun _ h9 => h9) rfl d_Type_isLike_5 ?_
  refine lv_icmp_ne (tgt := 37) hx hb d_Type_isLike_8 (by decide) (fun c1 => ?_) (fun c1 => ?_)
  · have nc1 : ¬ (tW r) = (tW u) := fun h9 => c1 ((nI_eq (a := (tW r)) (b := (tW u)) (by omega) (by omega)).mpr h9)
    refine lv_iconst (v := 0) hx hb d_Type_isLike_37 (by decide) ?_
    exact z_zretR hx hb hr hlocks d_Type_isLike_38 rfl (by rw [if_neg (fun h9 => nc1 h9.1)])
  · have nc1 : (tW r) = (tW u) := (nI_eq (a := (tW r)) (b := (tW u)) (by omega) (by omega)).mp c1
    refine lv_aload_n hx hb d_Type_isLike_11 rfl (lv_at hl 0 rfl) ?_
    refine va_get (D := D) (ci := 1) (v := .int (oI (tL r))) (C := "ValueTrees$Type") (T := T_Type) (N := 5) hx hb ht in_Type hown hK.1 (z_1 oa) 0 rfl rfl 1 (by decide) (ht _ q66) (fun _ h9 => h9) rfl d_Type_isLike_12 ?_
    refine lv_aload_n hx hb d_Type_isLike_15 rfl (lv_at hl 1 rfl) ?_
    refine va_get (D := D) (ci := 1) (v := .int (oI (tL u))) (C := "ValueTrees$Type") (T := T_Type) (N := 5) hx hb ht in_Type hown hK.1 (z_1 od) 0 rfl rfl 1 (by decide) (ht _ q66) (fun _ h9 => h9) rfl d_Type_isLike_16 ?_
    refine lv_icmp_ne (tgt := 37) hx hb d_Type_isLike_19 (by decide) (fun c2 => ?_) (fun c2 => ?_)
    · refine lv_iconst (v := 0) hx hb d_Type_isLike_37 (by decide) ?_
      exact z_zretR hx hb hr hlocks d_Type_isLike_38 rfl (by rw [if_neg (fun h9 => c2 h9.2.1)])
    · refine lv_aload_n hx hb d_Type_isLike_22 rfl (lv_at hl 0 rfl) ?_
      refine va_get (D := D) (ci := 1) (v := .int (oI (tR r))) (C := "ValueTrees$Type") (T := T_Type) (N := 5) hx hb ht in_Type hown hK.1 (z_1 oa) 0 rfl rfl 2 (by decide) (ht _ q68) (fun _ h9 => h9) rfl d_Type_isLike_23 ?_
      refine lv_aload_n hx hb d_Type_isLike_26 rfl (lv_at hl 1 rfl) ?_
      refine va_get (D := D) (ci := 1) (v := .int (oI (tR u))) (C := "ValueTrees$Type") (T := T_Type) (N := 5) hx hb ht in_Type hown hK.1 (z_1 od) 0 rfl rfl 2 (by decide) (ht _ q68) (fun _ h9 => h9) rfl d_Type_isLike_27 ?_
      refine lv_icmp_ne (tgt := 37) hx hb d_Type_isLike_30 (by decide) (fun c3 => ?_) (fun c3 => ?_)
      · refine lv_iconst (v := 0) hx hb d_Type_isLike_37 (by decide) ?_
        exact z_zretR hx hb hr hlocks d_Type_isLike_38 rfl (by rw [if_neg (fun h9 => c3 h9.2.2)])
      · refine lv_iconst (v := 1) hx hb d_Type_isLike_33 (by decide) ?_
        refine lv_goto (tgt := 38) hx hb d_Type_isLike_34 (by decide) ?_
        exact z_zretR hx hb hr hlocks d_Type_isLike_38 rfl (by rw [if_pos ⟨nc1, c2, c3⟩])
abbrev b_AL_size : ByteArray := prog_20_method_8_code
abbrev y_AL_size : MethodName := ⟨"java/util/ArrayList", "size", "()I"⟩
abbrev w_AL_size : List Cond := .code y_AL_size b_AL_size 1 (Option.some .int) :: gt
theorem hd_AL_size : (y_AL_size).cls ≠ "java/lang/invoke/MethodHandle" ∧ (y_AL_size).cls ≠ "java/lang/invoke/VarHandle" ∧ (parseMethodDescriptor (y_AL_size).desc).map (fun d => d.parameters.length) = some 0 := by decide +kernel
theorem d_AL_size_0 : decode b_AL_size 0 = .ok (.aload_n 0, 1) := by decide +kernel
theorem d_AL_size_1 : decode b_AL_size 1 = .ok (.getfield 48, 3) := by decide +kernel
theorem d_AL_size_4 : decode b_AL_size 4 = .ok (.ireturn, 1) := by decide +kernel
set_option maxHeartbeats 4000000 in
set_option maxRecDepth 100000 in
theorem c_AL_size (l : Launch) (D : va_G) (dT : Nat → ClassId) (H : Heap) (li ed : Nat) (mcn : Int32) (n : Nat) (hli : va_at D cls (li, .inr (9, [.int mcn, .ref ed, .int (nI n)])) H) : Met l y_AL_size w_AL_size ({ frames := 0, cells := 0, slots := 0, locals := 0 }) (z_P D dT [.ref li] H) (z_R (fun v => v = .int (nI n))) 0 0 (fun _ => False) := by
  refine Met.ofW (cc := b_AL_size) (maxL := 1) (ret := (Option.some .int)) (by decide) rfl ?_
  intro p e s m args below meth c s₁ B hml hv
  obtain ⟨rfl, rfl, hK⟩ := hv
  have hx := B.exec
  have hb := B.bytes
  have hr := B.returns
  have hts := atoms_spec (ws := w_AL_size) B.pre
  have ht : ∀ w9 ∈ gt, w9.before [.ref li].toArray s = true := fun w9 h => hts w9 (List.mem_cons_of_mem _ h)
  have hown : s.vm.findClass "java/util/ArrayList" = some m.cls := findClass_of_methodNamed B.named
  have hlocks := B.notSynchronized
  have hl := lv_entry ([.ref li]) (n := 1) (Nat.le_of_ble_eq_true rfl)
  rw [lg_entry_eq]
  generalize (lg_sl ([.ref li]) ++ List.replicate (1 - (lg_sl ([.ref li])).length) Slot.unset).toArray = ls at hl ⊢
  have hl : lv_has ls 1 [(0, .ref li)] := hl
  refine lv_aload_n hx hb d_AL_size_0 rfl (lv_at hl 0 rfl) ?_
  refine va_get (D := D) (ci := 9) (v := .int (nI n)) (C := "java/util/ArrayList") (T := T_AL) (N := 3) hx hb ht in_AL hown hK.1 (z_1 hli) 0 rfl rfl 2 (by decide) (ht _ q44) (fun _ h9 => h9) rfl d_AL_size_1 ?_
  exact z_iretR hx hb hr hlocks d_AL_size_4 rfl
abbrev b_AL_elementData : ByteArray := prog_20_method_18_code
abbrev y_AL_elementData : MethodName := ⟨"java/util/ArrayList", "elementData", "(I)Ljava/lang/Object;"⟩
abbrev w_AL_elementData : List Cond := .code y_AL_elementData b_AL_elementData 2 (Option.some (.object "java/lang/Object")) :: gt
theorem hd_AL_elementData : (y_AL_elementData).cls ≠ "java/lang/invoke/MethodHandle" ∧ (y_AL_elementData).cls ≠ "java/lang/invoke/VarHandle" ∧ (parseMethodDescriptor (y_AL_elementData).desc).map (fun d => d.parameters.length) = some 1 := by decide +kernel
theorem d_AL_elementData_0 : decode b_AL_elementData 0 = .ok (.aload_n 0, 1) := by decide +kernel
theorem d_AL_elementData_1 : decode b_AL_elementData 1 = .ok (.getfield 9, 3) := by decide +kernel
theorem d_AL_elementData_4 : decode b_AL_elementData 4 = .ok (.iload_n 1, 1) := by decide +kernel
theorem d_AL_elementData_5 : decode b_AL_elementData 5 = .ok (.aaload, 1) := by decide +kernel
theorem d_AL_elementData_6 : decode b_AL_elementData 6 = .ok (.areturn, 1) := by decide +kernel
set_option maxHeartbeats 4000000 in
set_option maxRecDepth 100000 in
theorem c_AL_elementData (l : Launch) (D : va_G) (dT : Nat → ClassId) (H : Heap) (li ed : Nat) (mcn : Int32) (n : Nat) (hli : va_at D cls (li, .inr (9, [.int mcn, .ref ed, .int (nI n)])) H) (cap : Nat) (g : Nat → Option Nat) (hed : va_at D cls (ed, .inl (dT 2, cap, .inr (.inr (.inr (.inr g))))) H) (hcap : cap ≤ 3000) (k a : Nat) (hk : k < cap) (hg : g k = some a) : Met l y_AL_elementData w_AL_elementData ({ frames := 0, cells := 0, slots := 0, locals := 0 }) (z_P D dT [.ref li, .int (nI k)] H) (z_R (fun v => v = .ref a)) 0 0 (fun _ => False) := by
  refine Met.ofW (cc := b_AL_elementData) (maxL := 2) (ret := (Option.some (.object "java/lang/Object"))) (by decide) rfl ?_
  intro p e s m args below meth c s₁ B hml hv
  obtain ⟨rfl, rfl, hK⟩ := hv
  have hx := B.exec
  have hb := B.bytes
  have hr := B.returns
  have hts := atoms_spec (ws := w_AL_elementData) B.pre
  have ht : ∀ w9 ∈ gt, w9.before [.ref li, .int (nI k)].toArray s = true := fun w9 h => hts w9 (List.mem_cons_of_mem _ h)
  have hown : s.vm.findClass "java/util/ArrayList" = some m.cls := findClass_of_methodNamed B.named
  have hlocks := B.notSynchronized
  have hl := lv_entry ([.ref li, .int (nI k)]) (n := 2) (Nat.le_of_ble_eq_true rfl)
  rw [lg_entry_eq]
  generalize (lg_sl ([.ref li, .int (nI k)]) ++ List.replicate (2 - (lg_sl ([.ref li, .int (nI k)])).length) Slot.unset).toArray = ls at hl ⊢
  have hl : lv_has ls 2 [(0, .ref li), (1, .int (nI k))] := hl
  refine lv_aload_n hx hb d_AL_elementData_0 rfl (lv_at hl 0 rfl) ?_
  refine va_get (D := D) (ci := 9) (v := .ref ed) (C := "java/util/ArrayList") (T := T_AL) (N := 3) hx hb ht in_AL hown hK.1 (z_1 hli) 0 rfl rfl 1 (by decide) (ht _ q43) (fun _ h9 => h9) rfl d_AL_elementData_1 ?_
  refine lv_iload_n hx hb d_AL_elementData_4 rfl (lv_at hl 1 rfl) ?_
  refine z_aald (v := .ref a) hx hb hK hed rfl k rfl hk (by omega) (by rw [hg]; rfl) d_AL_elementData_5 ?_
  exact z_aretR hx hb hr hlocks d_AL_elementData_6 (Or.inl ⟨_, rfl⟩) (Or.inr ⟨_, rfl⟩) rfl
abbrev b_Pre_checkIndex : ByteArray := prog_28_method_11_code
abbrev y_Pre_checkIndex : MethodName := ⟨"jdk/internal/util/Preconditions", "checkIndex", "(IILjava/util/function/BiFunction;)I"⟩
abbrev w_Pre_checkIndex : List Cond := .code y_Pre_checkIndex b_Pre_checkIndex 3 (Option.some .int) :: gt
theorem hd_Pre_checkIndex : (y_Pre_checkIndex).cls ≠ "java/lang/invoke/MethodHandle" ∧ (y_Pre_checkIndex).cls ≠ "java/lang/invoke/VarHandle" ∧ (parseMethodDescriptor (y_Pre_checkIndex).desc).map (fun d => d.parameters.length) = some 3 := by decide +kernel
theorem d_Pre_checkIndex_0 : decode b_Pre_checkIndex 0 = .ok (.iload_n 0, 1) := by decide +kernel
theorem d_Pre_checkIndex_1 : decode b_Pre_checkIndex 1 = .ok (.ifCond .lt 8, 3) := by decide +kernel
theorem d_Pre_checkIndex_4 : decode b_Pre_checkIndex 4 = .ok (.iload_n 0, 1) := by decide +kernel
theorem d_Pre_checkIndex_5 : decode b_Pre_checkIndex 5 = .ok (.iload_n 1, 1) := by decide +kernel
theorem d_Pre_checkIndex_6 : decode b_Pre_checkIndex 6 = .ok (.if_icmp .lt 10, 3) := by decide +kernel
theorem d_Pre_checkIndex_9 : decode b_Pre_checkIndex 9 = .ok (.aload_n 2, 1) := by decide +kernel
theorem d_Pre_checkIndex_10 : decode b_Pre_checkIndex 10 = .ok (.iload_n 0, 1) := by decide +kernel
theorem d_Pre_checkIndex_11 : decode b_Pre_checkIndex 11 = .ok (.iload_n 1, 1) := by decide +kernel
theorem d_Pre_checkIndex_12 : decode b_Pre_checkIndex 12 = .ok (.invokestatic 95, 3) := by decide +kernel
theorem d_Pre_checkIndex_15 : decode b_Pre_checkIndex 15 = .ok (.athrow, 1) := by decide +kernel
theorem d_Pre_checkIndex_16 : decode b_Pre_checkIndex 16 = .ok (.iload_n 0, 1) := by decide +kernel
theorem d_Pre_checkIndex_17 : decode b_Pre_checkIndex 17 = .ok (.ireturn, 1) := by decide +kernel
set_option maxHeartbeats 4000000 in
set_option maxRecDepth 100000 in
theorem c_Pre_checkIndex (l : Launch) (D : va_G) (dT : Nat → ClassId) (H : Heap) (k n : Nat) (hk : k < n) (hn : n ≤ 3000) : Met l y_Pre_checkIndex w_Pre_checkIndex ({ frames := 0, cells := 0, slots := 0, locals := 0 }) (z_P D dT [.int (nI k), .int (nI n), .null] H) (z_R (fun v => v = .int (nI k))) 0 0 (fun _ => False) := by
  refine Met.ofW (cc := b_Pre_checkIndex) (maxL := 3) (ret := (Option.some .int)) (by decide) rfl ?_
  intro p e s m args below meth c s₁ B hml hv
  obtain ⟨rfl, rfl, hK⟩ := hv
  have hx := B.exec
  have hb := B.bytes
  have hr := B.returns
  have hts := atoms_spec (ws := w_Pre_checkIndex) B.pre
  have ht : ∀ w9 ∈ gt, w9.before [.int (nI k), .int (nI n), .null].toArray s = true := fun w9 h => hts w9 (List.mem_cons_of_mem _ h)
  have hown : s.vm.findClass "jdk/internal/util/Preconditions" = some m.cls := findClass_of_methodNamed B.named
  have hlocks := B.notSynchronized
  have hl := lv_entry ([.int (nI k), .int (nI n), .null]) (n := 3) (Nat.le_of_ble_eq_true rfl)
  rw [lg_entry_eq]
  generalize (lg_sl ([.int (nI k), .int (nI n), .null]) ++ List.replicate (3 - (lg_sl ([.int (nI k), .int (nI n), .null])).length) Slot.unset).toArray = ls at hl ⊢
  have hl : lv_has ls 3 [(0, .int (nI k)), (1, .int (nI n)), (2, .null)] := hl
  refine lv_iload_n hx hb d_Pre_checkIndex_0 rfl (lv_at hl 0 rfl) ?_
  refine lv_if_lt (tgt := 9) hx hb d_Pre_checkIndex_1 (by decide) (fun c1 => absurd c1 (nI_pos (by omega))) (fun c1 => ?_)
  refine lv_iload_n hx hb d_Pre_checkIndex_4 rfl (lv_at hl 0 rfl) ?_
  refine lv_iload_n hx hb d_Pre_checkIndex_5 rfl (lv_at hl 1 rfl) ?_
  refine lv_icmp_lt (tgt := 16) hx hb d_Pre_checkIndex_6 (by decide) (fun c2 => ?_) (fun c2 => absurd ((nI_ltI (by omega) (by omega)).mpr hk) c2)
  refine lv_iload_n hx hb d_Pre_checkIndex_16 rfl (lv_at hl 0 rfl) ?_
  exact z_iretR hx hb hr hlocks d_Pre_checkIndex_17 rfl
abbrev b_Obs_checkIndex : ByteArray := prog_24_method_17_code
abbrev y_Obs_checkIndex : MethodName := ⟨"java/util/Objects", "checkIndex", "(II)I"⟩
abbrev w_Obs_checkIndex : List Cond := .code y_Obs_checkIndex b_Obs_checkIndex 2 (Option.some .int) :: gt
theorem hd_Obs_checkIndex : (y_Obs_checkIndex).cls ≠ "java/lang/invoke/MethodHandle" ∧ (y_Obs_checkIndex).cls ≠ "java/lang/invoke/VarHandle" ∧ (parseMethodDescriptor (y_Obs_checkIndex).desc).map (fun d => d.parameters.length) = some 2 := by decide +kernel
theorem d_Obs_checkIndex_0 : decode b_Obs_checkIndex 0 = .ok (.iload_n 0, 1) := by decide +kernel
theorem d_Obs_checkIndex_1 : decode b_Obs_checkIndex 1 = .ok (.iload_n 1, 1) := by decide +kernel
theorem d_Obs_checkIndex_2 : decode b_Obs_checkIndex 2 = .ok (.aconst_null, 1) := by decide +kernel
theorem d_Obs_checkIndex_3 : decode b_Obs_checkIndex 3 = .ok (.invokestatic 105, 3) := by decide +kernel
theorem d_Obs_checkIndex_6 : decode b_Obs_checkIndex 6 = .ok (.ireturn, 1) := by decide +kernel
set_option maxHeartbeats 4000000 in
set_option maxRecDepth 100000 in
theorem c_Obs_checkIndex (l : Launch) (D : va_G) (dT : Nat → ClassId) (H : Heap) (k n : Nat) (hk : k < n) (hn : n ≤ 3000) : Met l y_Obs_checkIndex w_Obs_checkIndex ({ frames := 1, cells := 0, slots := 0, locals := 22 }) (z_P D dT [.int (nI k), .int (nI n)] H) (z_R (fun v => v = .int (nI k))) 0 0 (fun _ => False) := by
  refine Met.ofW (cc := b_Obs_checkIndex) (maxL := 2) (ret := (Option.some .int)) (by decide) rfl ?_
  intro p e s m args below meth c s₁ B hml hv
  obtain ⟨rfl, rfl, hK⟩ := hv
  have hx := B.exec
  have hb := B.bytes
  have hr := B.returns
  have hts := atoms_spec (ws := w_Obs_checkIndex) B.pre
  have ht : ∀ w9 ∈ gt, w9.before [.int (nI k), .int (nI n)].toArray s = true := fun w9 h => hts w9 (List.mem_cons_of_mem _ h)
  have hown : s.vm.findClass "java/util/Objects" = some m.cls := findClass_of_methodNamed B.named
  have hlocks := B.notSynchronized
  have hl := lv_entry ([.int (nI k), .int (nI n)]) (n := 2) (Nat.le_of_ble_eq_true rfl)
  rw [lg_entry_eq]
  generalize (lg_sl ([.int (nI k), .int (nI n)]) ++ List.replicate (2 - (lg_sl ([.int (nI k), .int (nI n)])).length) Slot.unset).toArray = ls at hl ⊢
  have hl : lv_has ls 2 [(0, .int (nI k)), (1, .int (nI n))] := hl
  refine lv_iload_n hx hb d_Obs_checkIndex_0 rfl (lv_at hl 0 rfl) ?_
  refine lv_iload_n hx hb d_Obs_checkIndex_1 rfl (lv_at hl 1 rfl) ?_
  refine lv_null hx hb d_Obs_checkIndex_2 ?_
  refine z_callR (va_runS (As := [.int (nI k), .int (nI n), .null]) (rest := []) ⟨hx, hb, hml, hown, hts⟩ (c_Pre_checkIndex l D dT _ k n hk hn) ⟨callB_of 3 hts (gI gd_up gd_c q177) rfl rfl rfl (ht _ q12) (ht _ q175) hd_Pre_checkIndex ⟨Nat.le_of_ble_eq_true rfl, Nat.le_of_ble_eq_true rfl⟩, ht _ q176⟩ (z_preS hK) rfl rfl hl.1 rfl (lv_room (Nat.le_of_ble_eq_true rfl)) d_Obs_checkIndex_3 ⟨Nat.zero_le _, Nat.zero_le _⟩) (fun v2 hv1 => ?_)
  subst hv1
  exact z_iretR hx hb hr hlocks d_Obs_checkIndex_6 rfl
abbrev b_AL_get : ByteArray := prog_20_method_20_code
abbrev y_AL_get : MethodName := ⟨"java/util/ArrayList", "get", "(I)Ljava/lang/Object;"⟩
abbrev w_AL_get : List Cond := .code y_AL_get b_AL_get 2 (Option.some (.object "java/lang/Object")) :: gt
theorem hd_AL_get : (y_AL_get).cls ≠ "java/lang/invoke/MethodHandle" ∧ (y_AL_get).cls ≠ "java/lang/invoke/VarHandle" ∧ (parseMethodDescriptor (y_AL_get).desc).map (fun d => d.parameters.length) = some 1 := by decide +kernel
theorem d_AL_get_0 : decode b_AL_get 0 = .ok (.iload_n 1, 1) := by decide +kernel
theorem d_AL_get_1 : decode b_AL_get 1 = .ok (.aload_n 0, 1) := by decide +kernel
theorem d_AL_get_2 : decode b_AL_get 2 = .ok (.getfield 48, 3) := by decide +kernel
theorem d_AL_get_5 : decode b_AL_get 5 = .ok (.invokestatic 118, 3) := by decide +kernel
theorem d_AL_get_8 : decode b_AL_get 8 = .ok (.pop, 1) := by decide +kernel
theorem d_AL_get_9 : decode b_AL_get 9 = .ok (.aload_n 0, 1) := by decide +kernel
theorem d_AL_get_10 : decode b_AL_get 10 = .ok (.iload_n 1, 1) := by decide +kernel
theorem d_AL_get_11 : decode b_AL_get 11 = .ok (.invokevirtual 123, 3) := by decide +kernel
theorem d_AL_get_14 : decode b_AL_get 14 = .ok (.areturn, 1) := by decide +kernel
set_option maxHeartbeats 4000000 in
set_option maxRecDepth 100000 in
theorem c_AL_get (l : Launch) (D : va_G) (dT : Nat → ClassId) (H : Heap) (li ed : Nat) (mcn : Int32) (n : Nat) (hli : va_at D cls (li, .inr (9, [.int mcn, .ref ed, .int (nI n)])) H) (cap : Nat) (g : Nat → Option Nat) (hed : va_at D cls (ed, .inl (dT 2, cap, .inr (.inr (.inr (.inr g))))) H) (hcap : cap ≤ 3000) (k a : Nat) (hk : k < n) (hnc : n ≤ cap) (hg : g k = some a) : Met l y_AL_get w_AL_get ({ frames := 2, cells := 0, slots := 0, locals := 43 }) (z_P D dT [.ref li, .int (nI k)] H) (z_R (fun v => v = .ref a)) 0 0 (fun _ => False) := by
  refine Met.ofW (cc := b_AL_get) (maxL := 2) (ret := (Option.some (.object "java/lang/Object"))) (by decide) rfl ?_
  intro p e s m args below meth c s₁ B hml hv
  obtain ⟨rfl, rfl, hK⟩ := hv
  have hx := B.exec
  have hb := B.bytes
  have hr := B.returns
  have hts := atoms_spec (ws := w_AL_get) B.pre
  have ht : ∀ w9 ∈ gt, w9.before [.ref li, .int (nI k)].toArray s = true := fun w9 h => hts w9 (List.mem_cons_of_mem _ h)
  have hown : s.vm.findClass "java/util/ArrayList" = some m.cls := findClass_of_methodNamed B.named
  have hlocks := B.notSynchronized
  have hl := lv_entry ([.ref li, .int (nI k)]) (n := 2) (Nat.le_of_ble_eq_true rfl)
  rw [lg_entry_eq]
  generalize (lg_sl ([.ref li, .int (nI k)]) ++ List.replicate (2 - (lg_sl ([.ref li, .int (nI k)])).length) Slot.unset).toArray = ls at hl ⊢
  have hl : lv_has ls 2 [(0, .ref li), (1, .int (nI k))] := hl
  refine lv_iload_n hx hb d_AL_get_0 rfl (lv_at hl 1 rfl) ?_
  refine lv_aload_n hx hb d_AL_get_1 rfl (lv_at hl 0 rfl) ?_
  refine va_get (D := D) (ci := 9) (v := .int (nI n)) (C := "java/util/ArrayList") (T := T_AL) (N := 3) hx hb ht in_AL hown hK.1 (z_1 hli) 0 rfl rfl 2 (by decide) (ht _ q44) (fun _ h9 => h9) rfl d_AL_get_2 ?_
  refine z_callR (va_runS (As := [.int (nI k), .int (nI n)]) (rest := []) ⟨hx, hb, hml, hown, hts⟩ (c_Obs_checkIndex l D dT _ k n hk (by omega)) ⟨callB_of 2 hts (gI gd_up gd_c q174) rfl rfl rfl (ht _ q11) (ht _ q172) hd_Obs_checkIndex ⟨Nat.le_of_ble_eq_true rfl, Nat.le_of_ble_eq_true rfl⟩, ht _ q173⟩ (z_preS hK) rfl rfl hl.1 rfl (lv_room (Nat.le_of_ble_eq_true rfl)) d_AL_get_5 ⟨Nat.zero_le _, Nat.zero_le _⟩) (fun v2 hv1 => ?_)
  subst hv1
  refine lv_pop hx hb d_AL_get_8 rfl ?_
  refine lv_aload_n hx hb d_AL_get_9 rfl (lv_at hl 0 rfl) ?_
  refine lv_iload_n hx hb d_AL_get_10 rfl (lv_at hl 1 rfl) ?_
  refine z_callR (va_runV (C := "java/util/ArrayList") (As := [.int (nI k)]) (rest := []) ⟨hx, hb, hml, hown, hts⟩ (c_AL_elementData l D dT _ li ed mcn n hli cap g hed hcap k a (by omega) hg) ⟨callB_of 1 hts (gI gd_up gd_c q181) rfl rfl rfl (ht _ q4) (ht _ q178) hd_AL_elementData ⟨Nat.le_of_ble_eq_true rfl, Nat.le_of_ble_eq_true rfl⟩, ht _ q179, ht _ q180⟩ (z_preV hK (va_recv hK.1 (z_1 hli) (ci := 9) (q0 := 0) rfl rfl)) rfl rfl hl.1 rfl (lv_room (Nat.le_of_ble_eq_true rfl)) d_AL_get_11 ⟨Nat.zero_le _, Nat.zero_le _⟩) (fun v4 hv3 => ?_)
  subst hv3
  exact z_aretR hx hb hr hlocks d_AL_get_14 (Or.inl ⟨_, rfl⟩) (Or.inr ⟨_, rfl⟩) rfl
abbrev b_V_typeNumbered : ByteArray := prog_1_method_32_code
abbrev y_V_typeNumbered : MethodName := ⟨"ValueTrees", "typeNumbered", "(I)LValueTrees$Type;"⟩
abbrev w_V_typeNumbered : List Cond := .code y_V_typeNumbered b_V_typeNumbered 2 (Option.some (.object "ValueTrees$Type")) :: gt
theorem hd_V_typeNumbered : (y_V_typeNumbered).cls ≠ "java/lang/invoke/MethodHandle" ∧ (y_V_typeNumbered).cls ≠ "java/lang/invoke/VarHandle" ∧ (parseMethodDescriptor (y_V_typeNumbered).desc).map (fun d => d.parameters.length) = some 1 := by decide +kernel
theorem d_V_typeNumbered_0 : decode b_V_typeNumbered 0 = .ok (.iload_n 1, 1) := by decide +kernel
theorem d_V_typeNumbered_1 : decode b_V_typeNumbered 1 = .ok (.ifCond .lt 28, 3) := by decide +kernel
theorem d_V_typeNumbered_4 : decode b_V_typeNumbered 4 = .ok (.iload_n 1, 1) := by decide +kernel
theorem d_V_typeNumbered_5 : decode b_V_typeNumbered 5 = .ok (.aload_n 0, 1) := by decide +kernel
theorem d_V_typeNumbered_6 : decode b_V_typeNumbered 6 = .ok (.getfield 10, 3) := by decide +kernel
theorem d_V_typeNumbered_9 : decode b_V_typeNumbered 9 = .ok (.invokevirtual 226, 3) := by decide +kernel
theorem d_V_typeNumbered_12 : decode b_V_typeNumbered 12 = .ok (.if_icmp .ge 17, 3) := by decide +kernel
theorem d_V_typeNumbered_15 : decode b_V_typeNumbered 15 = .ok (.aload_n 0, 1) := by decide +kernel
theorem d_V_typeNumbered_16 : decode b_V_typeNumbered 16 = .ok (.getfield 10, 3) := by decide +kernel
theorem d_V_typeNumbered_19 : decode b_V_typeNumbered 19 = .ok (.iload_n 1, 1) := by decide +kernel
theorem d_V_typeNumbered_20 : decode b_V_typeNumbered 20 = .ok (.invokevirtual 230, 3) := by decide +kernel
theorem d_V_typeNumbered_23 : decode b_V_typeNumbered 23 = .ok (.checkcast 16, 3) := by decide +kernel
theorem d_V_typeNumbered_26 : decode b_V_typeNumbered 26 = .ok (.goto 4, 3) := by decide +kernel
theorem d_V_typeNumbered_29 : decode b_V_typeNumbered 29 = .ok (.aconst_null, 1) := by decide +kernel
theorem d_V_typeNumbered_30 : decode b_V_typeNumbered 30 = .ok (.areturn, 1) := by decide +kernel
set_option maxHeartbeats 4000000 in
set_option maxRecDepth 100000 in
theorem c_V_typeNumbered (l : Launch) (D : va_G) (dT : Nat → ClassId) (H : Heap) (Bq : Nat → Prop) (vv rg li ed : Nat) (tb : Nat → TR) (tc : Nat) (RV : Nat → Option VT) (hC : cI D dT Bq vv rg li ed tb tc RV H) (hV : vOK tb tc RV) (t : Int32) : Met l y_V_typeNumbered w_V_typeNumbered ({ frames := 3, cells := 0, slots := 0, locals := 64 }) (z_P D dT [.ref vv, .int t] H) (z_R (tnP D Bq tb tc t H)) 0 0 (fun _ => False) := by
  obtain ⟨⟨hBs, hBr, hBl, hBe, hBv, hrl, hre, hle⟩, hvv, hCR, hCT⟩ := id hC
  have hO := hV.1
  have htc := hO.1
  have htc10 := hO.2.1
  obtain ⟨mcn, cap, g, hli, hed, hcap, hcap0, hcapm, hty9⟩ := id hCT
  refine Met.ofW (cc := b_V_typeNumbered) (maxL := 2) (ret := (Option.some (.object "ValueTrees$Type"))) (by decide) rfl ?_
  intro p e s m args below meth c s₁ B hml hv
  obtain ⟨rfl, rfl, hK⟩ := hv
  have hx := B.exec
  have hb := B.bytes
  have hr := B.returns
  have hts := atoms_spec (ws := w_V_typeNumbered) B.pre
  have ht : ∀ w9 ∈ gt, w9.before [.ref vv, .int t].toArray s = true := fun w9 h => hts w9 (List.mem_cons_of_mem _ h)
  have hown : s.vm.findClass "ValueTrees" = some m.cls := findClass_of_methodNamed B.named
  have hlocks := B.notSynchronized
  have hl := lv_entry ([.ref vv, .int t]) (n := 2) (Nat.le_of_ble_eq_true rfl)
  rw [lg_entry_eq]
  generalize (lg_sl ([.ref vv, .int t]) ++ List.replicate (2 - (lg_sl ([.ref vv, .int t])).length) Slot.unset).toArray = ls at hl ⊢
  have hl : lv_has ls 2 [(0, .ref vv), (1, .int t)] := hl
  refine lv_iload_n hx hb d_V_typeNumbered_0 rfl (lv_at hl 1 rfl) ?_
  refine lv_if_lt (tgt := 29) hx hb d_V_typeNumbered_1 (by decide) (fun c1 => ?_) (fun c1 => ?_)
  · refine lv_null hx hb d_V_typeNumbered_29 ?_
    exact z_aretR hx hb hr hlocks d_V_typeNumbered_30 (Or.inl ⟨_, rfl⟩) (Or.inl rfl) (Or.inl ⟨rfl, tN_none (fun h9 => absurd c1 (Int32.not_lt.mpr h9.1))⟩)
  · refine lv_iload_n hx hb d_V_typeNumbered_4 rfl (lv_at hl 1 rfl) ?_
    refine lv_aload_n hx hb d_V_typeNumbered_5 rfl (lv_at hl 0 rfl) ?_
    refine va_get (D := D) (ci := 0) (v := .ref li) (C := "ValueTrees") (T := T_V) (N := 2) hx hb ht in_V hown hK.1 (z_1 hvv) 0 rfl rfl 0 (by decide) (ht _ q145) (fun _ h9 => h9) rfl d_V_typeNumbered_6 ?_
    refine z_callR (va_runV (C := "java/util/ArrayList") (As := []) (rest := [.int t]) ⟨hx, hb, hml, hown, hts⟩ (c_AL_size l D dT _ li ed mcn tc hli) ⟨callB_of 0 hts (gI gd_up gd_c q167) rfl rfl rfl (ht _ q4) (ht _ q164) hd_AL_size ⟨Nat.le_of_ble_eq_true rfl, Nat.le_of_ble_eq_true rfl⟩, ht _ q165, ht _ q166⟩ (z_preV hK (va_recv hK.1 (z_1 hli) (ci := 9) (q0 := 0) rfl rfl)) rfl rfl hl.1 rfl (lv_room (Nat.le_of_ble_eq_true rfl)) d_V_typeNumbered_9 ⟨Nat.zero_le _, Nat.zero_le _⟩) (fun v3 hv2 => ?_)
    subst hv2
    refine lv_icmp_ge (tgt := 29) hx hb d_V_typeNumbered_12 (by decide) (fun c4 => ?_) (fun c4 => ?_)
    · refine lv_null hx hb d_V_typeNumbered_29 ?_
      exact z_aretR hx hb hr hlocks d_V_typeNumbered_30 (Or.inl ⟨_, rfl⟩) (Or.inl rfl) (Or.inl ⟨rfl, tN_none (fun h9 => absurd h9.2 (Int32.not_lt.mpr c4))⟩)
    · obtain ⟨k, hk, rfl⟩ := tN_of ⟨Int32.not_lt.mp c1, Int32.not_le.mp c4⟩ htc
      obtain ⟨a9, hga, hnb, oa9⟩ := hty9 k hk
      refine lv_aload_n hx hb d_V_typeNumbered_15 rfl (lv_at hl 0 rfl) ?_
      refine va_get (D := D) (ci := 0) (v := .ref li) (C := "ValueTrees") (T := T_V) (N := 2) hx hb ht in_V hown hK.1 (z_1 hvv) 0 rfl rfl 0 (by decide) (ht _ q145) (fun _ h9 => h9) rfl d_V_typeNumbered_16 ?_
      refine lv_iload_n hx hb d_V_typeNumbered_19 rfl (lv_at hl 1 rfl) ?_
      refine z_callR (va_runV (C := "java/util/ArrayList") (As := [.int (nI k)]) (rest := []) ⟨hx, hb, hml, hown, hts⟩ (c_AL_get l D dT _ li ed mcn tc hli cap g hed hcapm k a9 hk hcap hga) ⟨callB_of 1 hts (gI gd_up gd_c q171) rfl rfl rfl (ht _ q4) (ht _ q168) hd_AL_get ⟨Nat.le_of_ble_eq_true rfl, Nat.le_of_ble_eq_true rfl⟩, ht _ q169, ht _ q170⟩ (z_preV hK (va_recv hK.1 (z_1 hli) (ci := 9) (q0 := 0) rfl rfl)) rfl rfl hl.1 rfl (lv_room (Nat.le_of_ble_eq_true rfl)) d_V_typeNumbered_20 ⟨Nat.zero_le _, Nat.zero_le _⟩) (fun v6 hv5 => ?_)
      subst hv5
      refine va_castE hx hb hown (ht _ q55) (z_recv hK oa9 rfl) d_V_typeNumbered_23 ?_
      refine lv_goto (tgt := 30) hx hb d_V_typeNumbered_26 (by decide) ?_
      exact z_aretR hx hb hr hlocks d_V_typeNumbered_30 (Or.inl ⟨_, rfl⟩) (Or.inr ⟨_, rfl⟩) (Or.inr ⟨a9, k, rfl, tN_nI hk htc, hk, hnb, oa9⟩)
abbrev b_V_wordOf : ByteArray := prog_1_method_33_code
abbrev y_V_wordOf : MethodName := ⟨"ValueTrees", "wordOf", "(I)I"⟩
abbrev w_V_wordOf : List Cond := .code y_V_wordOf b_V_wordOf 3 (Option.some .int) :: gt
theorem hd_V_wordOf : (y_V_wordOf).cls ≠ "java/lang/invoke/MethodHandle" ∧ (y_V_wordOf).cls ≠ "java/lang/invoke/VarHandle" ∧ (parseMethodDescriptor (y_V_wordOf).desc).map (fun d => d.parameters.length) = some 1 := by decide +kernel
theorem d_V_wordOf_0 : decode b_V_wordOf 0 = .ok (.aload_n 0, 1) := by decide +kernel
theorem d_V_wordOf_1 : decode b_V_wordOf 1 = .ok (.iload_n 1, 1) := by decide +kernel
theorem d_V_wordOf_2 : decode b_V_wordOf 2 = .ok (.invokevirtual 43, 3) := by decide +kernel
theorem d_V_wordOf_5 : decode b_V_wordOf 5 = .ok (.astore_n 2, 1) := by decide +kernel
theorem d_V_wordOf_6 : decode b_V_wordOf 6 = .ok (.aload_n 2, 1) := by decide +kernel
theorem d_V_wordOf_7 : decode b_V_wordOf 7 = .ok (.ifnonnull 7, 3) := by decide +kernel
theorem d_V_wordOf_10 : decode b_V_wordOf 10 = .ok (.iconst (-1), 1) := by decide +kernel
theorem d_V_wordOf_11 : decode b_V_wordOf 11 = .ok (.goto 7, 3) := by decide +kernel
theorem d_V_wordOf_14 : decode b_V_wordOf 14 = .ok (.aload_n 2, 1) := by decide +kernel
theorem d_V_wordOf_15 : decode b_V_wordOf 15 = .ok (.getfield 47, 3) := by decide +kernel
theorem d_V_wordOf_18 : decode b_V_wordOf 18 = .ok (.ireturn, 1) := by decide +kernel
set_option maxHeartbeats 4000000 in
set_option maxRecDepth 100000 in
theorem c_V_wordOf (l : Launch) (D : va_G) (dT : Nat → ClassId) (H : Heap) (Bq : Nat → Prop) (vv rg li ed : Nat) (tb : Nat → TR) (tc : Nat) (RV : Nat → Option VT) (hC : cI D dT Bq vv rg li ed tb tc RV H) (hV : vOK tb tc RV) (t : Int32) : Met l y_V_wordOf w_V_wordOf ({ frames := 4, cells := 0, slots := 0, locals := 85 }) (z_P D dT [.ref vv, .int t] H) (z_R (fun v => v = .int (a_word tb tc t))) 0 0 (fun _ => False) := by
  obtain ⟨⟨hBs, hBr, hBl, hBe, hBv, hrl, hre, hle⟩, hvv, hCR, hCT⟩ := id hC
  have hO := hV.1
  have htc := hO.1
  have htc10 := hO.2.1
  refine Met.ofW (cc := b_V_wordOf) (maxL := 3) (ret := (Option.some .int)) (by decide) rfl ?_
  intro p e s m args below meth c s₁ B hml hv
  obtain ⟨rfl, rfl, hK⟩ := hv
  have hx := B.exec
  have hb := B.bytes
  have hr := B.returns
  have hts := atoms_spec (ws := w_V_wordOf) B.pre
  have ht : ∀ w9 ∈ gt, w9.before [.ref vv, .int t].toArray s = true := fun w9 h => hts w9 (List.mem_cons_of_mem _ h)
  have hown : s.vm.findClass "ValueTrees" = some m.cls := findClass_of_methodNamed B.named
  have hlocks := B.notSynchronized
  have hl := lv_entry ([.ref vv, .int t]) (n := 3) (Nat.le_of_ble_eq_true rfl)
  rw [lg_entry_eq]
  generalize (lg_sl ([.ref vv, .int t]) ++ List.replicate (3 - (lg_sl ([.ref vv, .int t])).length) Slot.unset).toArray = ls at hl ⊢
  have hl : lv_has ls 3 [(0, .ref vv), (1, .int t)] := hl
  refine lv_aload_n hx hb d_V_wordOf_0 rfl (lv_at hl 0 rfl) ?_
  refine lv_iload_n hx hb d_V_wordOf_1 rfl (lv_at hl 1 rfl) ?_
  refine z_callR (va_runV (C := "ValueTrees") (As := [.int t]) (rest := []) ⟨hx, hb, hml, hown, hts⟩ (c_V_typeNumbered l D dT _ Bq vv rg li ed tb tc RV hC hV t) ⟨callB_of 1 hts (gI gd_up gd_c q163) rfl rfl rfl (ht _ q1) (ht _ q160) hd_V_typeNumbered ⟨Nat.le_of_ble_eq_true rfl, Nat.le_of_ble_eq_true rfl⟩, ht _ q162, ht _ qs4⟩ (z_preV hK (va_recv hK.1 (z_1 hvv) (ci := 0) (q0 := 0) rfl rfl)) rfl rfl hl.1 rfl (lv_room (Nat.le_of_ble_eq_true rfl)) d_V_wordOf_2 ⟨Nat.zero_le _, Nat.zero_le _⟩) (fun v2 hv1 => ?_)
  rcases hv1 with ⟨rfl, hq6⟩ | ⟨a3, k4, rfl, hq6, hk4, hnba3, oa3⟩
  · refine lv_astore_nN (lv' := [(2, .null), (0, .ref vv), (1, .int t)]) hx hb d_V_wordOf_5 rfl hl (by decide) rfl (fun ls hl => ?_)
    refine lv_aload_nN hx hb d_V_wordOf_6 rfl (lv_at hl 0 rfl) ?_
    refine lv_ifnonnullN hx hb d_V_wordOf_7 ?_
    refine lv_iconst (v := (-1)) hx hb d_V_wordOf_10 (by decide) ?_
    refine lv_goto (tgt := 18) hx hb d_V_wordOf_11 (by decide) ?_
    exact z_iretR hx hb hr hlocks d_V_wordOf_18 (by unfold a_word; rw [hq6])
  · refine lv_astore_n (lv' := [(2, .ref a3), (0, .ref vv), (1, .int t)]) hx hb d_V_wordOf_5 rfl hl (by decide) rfl (fun ls hl => ?_)
    refine lv_aload_n hx hb d_V_wordOf_6 rfl (lv_at hl 0 rfl) ?_
    refine lv_ifnonnull (tgt := 14) hx hb d_V_wordOf_7 (by decide) ?_
    refine lv_aload_n hx hb d_V_wordOf_14 rfl (lv_at hl 0 rfl) ?_
    refine va_get (D := D) (ci := 1) (v := .int (nI (tW (tb k4)))) (C := "ValueTrees$Type") (T := T_Type) (N := 5) hx hb ht in_Type hown hK.1 (z_1 oa3) 0 rfl rfl 0 (by decide) (ht _ q65) (fun _ h9 => h9) rfl d_V_wordOf_15 ?_
    exact z_iretR hx hb hr hlocks d_V_wordOf_18 (by unfold a_word; rw [hq6])
abbrev b_V_leftOf : ByteArray := prog_1_method_34_code
abbrev y_V_leftOf : MethodName := ⟨"ValueTrees", "leftOf", "(I)I"⟩
abbrev w_V_leftOf : List Cond := .code y_V_leftOf b_V_leftOf 3 (Option.some .int) :: gt
theorem hd_V_leftOf : (y_V_leftOf).cls ≠ "java/lang/invoke/MethodHandle" ∧ (y_V_leftOf).cls ≠ "java/lang/invoke/VarHandle" ∧ (parseMethodDescriptor (y_V_leftOf).desc).map (fun d => d.parameters.length) = some 1 := by decide +kernel
theorem d_V_leftOf_0 : decode b_V_leftOf 0 = .ok (.aload_n 0, 1) := by decide +kernel
theorem d_V_leftOf_1 : decode b_V_leftOf 1 = .ok (.iload_n 1, 1) := by decide +kernel
theorem d_V_leftOf_2 : decode b_V_leftOf 2 = .ok (.invokevirtual 43, 3) := by decide +kernel
theorem d_V_leftOf_5 : decode b_V_leftOf 5 = .ok (.astore_n 2, 1) := by decide +kernel
theorem d_V_leftOf_6 : decode b_V_leftOf 6 = .ok (.aload_n 2, 1) := by decide +kernel
theorem d_V_leftOf_7 : decode b_V_leftOf 7 = .ok (.ifnonnull 7, 3) := by decide +kernel
theorem d_V_leftOf_10 : decode b_V_leftOf 10 = .ok (.iconst (-1), 1) := by decide +kernel
theorem d_V_leftOf_11 : decode b_V_leftOf 11 = .ok (.goto 7, 3) := by decide +kernel
theorem d_V_leftOf_14 : decode b_V_leftOf 14 = .ok (.aload_n 2, 1) := by decide +kernel
theorem d_V_leftOf_15 : decode b_V_leftOf 15 = .ok (.getfield 51, 3) := by decide +kernel
theorem d_V_leftOf_18 : decode b_V_leftOf 18 = .ok (.ireturn, 1) := by decide +kernel
set_option maxHeartbeats 4000000 in
set_option maxRecDepth 100000 in
theorem c_V_leftOf (l : Launch) (D : va_G) (dT : Nat → ClassId) (H : Heap) (Bq : Nat → Prop) (vv rg li ed : Nat) (tb : Nat → TR) (tc : Nat) (RV : Nat → Option VT) (hC : cI D dT Bq vv rg li ed tb tc RV H) (hV : vOK tb tc RV) (t : Int32) : Met l y_V_leftOf w_V_leftOf ({ frames := 4, cells := 0, slots := 0, locals := 85 }) (z_P D dT [.ref vv, .int t] H) (z_R (fun v => v = .int (a_left tb tc t))) 0 0 (fun _ => False) := by
  obtain ⟨⟨hBs, hBr, hBl, hBe, hBv, hrl, hre, hle⟩, hvv, hCR, hCT⟩ := id hC
  have hO := hV.1
  have htc := hO.1
  have htc10 := hO.2.1
  refine Met.ofW (cc := b_V_leftOf) (maxL := 3) (ret := (Option.some .int)) (by decide) rfl ?_
  intro p e s m args below meth c s₁ B hml hv
  obtain ⟨rfl, rfl, hK⟩ := hv
  have hx := B.exec
  have hb := B.bytes
  have hr := B.returns
  have hts := atoms_spec (ws := w_V_leftOf) B.pre
  have ht : ∀ w9 ∈ gt, w9.before [.ref vv, .int t].toArray s = true := fun w9 h => hts w9 (List.mem_cons_of_mem _ h)
  have hown : s.vm.findClass "ValueTrees" = some m.cls := findClass_of_methodNamed B.named
  have hlocks := B.notSynchronized
  have hl := lv_entry ([.ref vv, .int t]) (n := 3) (Nat.le_of_ble_eq_true rfl)
  rw [lg_entry_eq]
  generalize (lg_sl ([.ref vv, .int t]) ++ List.replicate (3 - (lg_sl ([.ref vv, .int t])).length) Slot.unset).toArray = ls at hl ⊢
  have hl : lv_has ls 3 [(0, .ref vv), (1, .int t)] := hl
  refine lv_aload_n hx hb d_V_leftOf_0 rfl (lv_at hl 0 rfl) ?_
  refine lv_iload_n hx hb d_V_leftOf_1 rfl (lv_at hl 1 rfl) ?_
  refine z_callR (va_runV (C := "ValueTrees") (As := [.int t]) (rest := []) ⟨hx, hb, hml, hown, hts⟩ (c_V_typeNumbered l D dT _ Bq vv rg li ed tb tc RV hC hV t) ⟨callB_of 1 hts (gI gd_up gd_c q163) rfl rfl rfl (ht _ q1) (ht _ q160) hd_V_typeNumbered ⟨Nat.le_of_ble_eq_true rfl, Nat.le_of_ble_eq_true rfl⟩, ht _ q162, ht _ qs4⟩ (z_preV hK (va_recv hK.1 (z_1 hvv) (ci := 0) (q0 := 0) rfl rfl)) rfl rfl hl.1 rfl (lv_room (Nat.le_of_ble_eq_true rfl)) d_V_leftOf_2 ⟨Nat.zero_le _, Nat.zero_le _⟩) (fun v2 hv1 => ?_)
  rcases hv1 with ⟨rfl, hq6⟩ | ⟨a3, k4, rfl, hq6, hk4, hnba3, oa3⟩
  · refine lv_astore_nN (lv' := [(2, .null), (0, .ref vv), (1, .int t)]) hx hb d_V_leftOf_5 rfl hl (by decide) rfl (fun ls hl => ?_)
    refine lv_aload_nN hx hb d_V_leftOf_6 rfl (lv_at hl 0 rfl) ?_
    refine lv_ifnonnullN hx hb d_V_leftOf_7 ?_
    refine lv_iconst (v := (-1)) hx hb d_V_leftOf_10 (by decide) ?_
    refine lv_goto (tgt := 18) hx hb d_V_leftOf_11 (by decide) ?_
    exact z_iretR hx hb hr hlocks d_V_leftOf_18 (by unfold a_left; rw [hq6])
  · refine lv_astore_n (lv' := [(2, .ref a3), (0, .ref vv), (1, .int t)]) hx hb d_V_leftOf_5 rfl hl (by decide) rfl (fun ls hl => ?_)
    refine lv_aload_n hx hb d_V_leftOf_6 rfl (lv_at hl 0 rfl) ?_
    refine lv_ifnonnull (tgt := 14) hx hb d_V_leftOf_7 (by decide) ?_
    refine lv_aload_n hx hb d_V_leftOf_14 rfl (lv_at hl 0 rfl) ?_
    refine va_get (D := D) (ci := 1) (v := .int (oI (tL (tb k4)))) (C := "ValueTrees$Type") (T := T_Type) (N := 5) hx hb ht in_Type hown hK.1 (z_1 oa3) 0 rfl rfl 1 (by decide) (ht _ q67) (fun _ h9 => h9) rfl d_V_leftOf_15 ?_
    exact z_iretR hx hb hr hlocks d_V_leftOf_18 (by unfold a_left; rw [hq6])
abbrev b_V_rightOf : ByteArray := prog_1_method_35_code
abbrev y_V_rightOf : MethodName := ⟨"ValueTrees", "rightOf", "(I)I"⟩
abbrev w_V_rightOf : List Cond := .code y_V_rightOf b_V_rightOf 3 (Option.some .int) :: gt
theorem hd_V_rightOf : (y_V_rightOf).cls ≠ "java/lang/invoke/MethodHandle" ∧ (y_V_rightOf).cls ≠ "java/lang/invoke/VarHandle" ∧ (parseMethodDescriptor (y_V_rightOf).desc).map (fun d => d.parameters.length) = some 1 := by decide +kernel
theorem d_V_rightOf_0 : decode b_V_rightOf 0 = .ok (.aload_n 0, 1) := by decide +kernel
theorem d_V_rightOf_1 : decode b_V_rightOf 1 = .ok (.iload_n 1, 1) := by decide +kernel
theorem d_V_rightOf_2 : decode b_V_rightOf 2 = .ok (.invokevirtual 43, 3) := by decide +kernel
theorem d_V_rightOf_5 : decode b_V_rightOf 5 = .ok (.astore_n 2, 1) := by decide +kernel
theorem d_V_rightOf_6 : decode b_V_rightOf 6 = .ok (.aload_n 2, 1) := by decide +kernel
theorem d_V_rightOf_7 : decode b_V_rightOf 7 = .ok (.ifnonnull 7, 3) := by decide +kernel
theorem d_V_rightOf_10 : decode b_V_rightOf 10 = .ok (.iconst (-1), 1) := by decide +kernel
theorem d_V_rightOf_11 : decode b_V_rightOf 11 = .ok (.goto 7, 3) := by decide +kernel
theorem d_V_rightOf_14 : decode b_V_rightOf 14 = .ok (.aload_n 2, 1) := by decide +kernel
theorem d_V_rightOf_15 : decode b_V_rightOf 15 = .ok (.getfield 54, 3) := by decide +kernel
theorem d_V_rightOf_18 : decode b_V_rightOf 18 = .ok (.ireturn, 1) := by decide +kernel
set_option maxHeartbeats 4000000 in
set_option maxRecDepth 100000 in
theorem c_V_rightOf (l : Launch) (D : va_G) (dT : Nat → ClassId) (H : Heap) (Bq : Nat → Prop) (vv rg li ed : Nat) (tb : Nat → TR) (tc : Nat) (RV : Nat → Option VT) (hC : cI D dT Bq vv rg li ed tb tc RV H) (hV : vOK tb tc RV) (t : Int32) : Met l y_V_rightOf w_V_rightOf ({ frames := 4, cells := 0, slots := 0, locals := 85 }) (z_P D dT [.ref vv, .int t] H) (z_R (fun v => v = .int (a_right tb tc t))) 0 0 (fun _ => False) := by
  obtain ⟨⟨hBs, hBr, hBl, hBe, hBv, hrl, hre, hle⟩, hvv, hCR, hCT⟩ := id hC
  have hO := hV.1
  have htc := hO.1
  have htc10 := hO.2.1
  refine Met.ofW (cc := b_V_rightOf) (maxL := 3) (ret := (Option.some .int)) (by decide) rfl ?_
  intro p e s m args below meth c s₁ B hml hv
  obtain ⟨rfl, rfl, hK⟩ := hv
  have hx := B.exec
  have hb := B.bytes
  have hr := B.returns
  have hts := atoms_spec (ws := w_V_rightOf) B.pre
  have ht : ∀ w9 ∈ gt, w9.before [.ref vv, .int t].toArray s = true := fun w9 h => hts w9 (List.mem_cons_of_mem _ h)
  have hown : s.vm.findClass "ValueTrees" = some m.cls := findClass_of_methodNamed B.named
  have hlocks := B.notSynchronized
  have hl := lv_entry ([.ref vv, .int t]) (n := 3) (Nat.le_of_ble_eq_true rfl)
  rw [lg_entry_eq]
  generalize (lg_sl ([.ref vv, .int t]) ++ List.replicate (3 - (lg_sl ([.ref vv, .int t])).length) Slot.unset).toArray = ls at hl ⊢
  have hl : lv_has ls 3 [(0, .ref vv), (1, .int t)] := hl
  refine lv_aload_n hx hb d_V_rightOf_0 rfl (lv_at hl 0 rfl) ?_
  refine lv_iload_n hx hb d_V_rightOf_1 rfl (lv_at hl 1 rfl) ?_
  refine z_callR (va_runV (C := "ValueTrees") (As := [.int t]) (rest := []) ⟨hx, hb, hml, hown, hts⟩ (c_V_typeNumbered l D dT _ Bq vv rg li ed tb tc RV hC hV t) ⟨callB_of 1 hts (gI gd_up gd_c q163) rfl rfl rfl (ht _ q1) (ht _ q160) hd_V_typeNumbered ⟨Nat.le_of_ble_eq_true rfl, Nat.le_of_ble_eq_true rfl⟩, ht _ q162, ht _ qs4⟩ (z_preV hK (va_recv hK.1 (z_1 hvv) (ci := 0) (q0 := 0) rfl rfl)) rfl rfl hl.1 rfl (lv_room (Nat.le_of_ble_eq_true rfl)) d_V_rightOf_2 ⟨Nat.zero_le _, Nat.zero_le _⟩) (fun v2 hv1 => ?_)
  rcases hv1 with ⟨rfl, hq6⟩ | ⟨a3, k4, rfl, hq6, hk4, hnba3, oa3⟩
  · refine lv_astore_nN (lv' := [(2, .null), (0, .ref vv), (1, .int t)]) hx hb d_V_rightOf_5 rfl hl (by decide) rfl (fun ls hl => ?_)
    refine lv_aload_nN hx hb d_V_rightOf_6 rfl (lv_at hl 0 rfl) ?_
    refine lv_ifnonnullN hx hb d_V_rightOf_7 ?_
    refine lv_iconst (v := (-1)) hx hb d_V_rightOf_10 (by decide) ?_
    refine lv_goto (tgt := 18) hx hb d_V_rightOf_11 (by decide) ?_
    exact z_iretR hx hb hr hlocks d_V_rightOf_18 (by unfold a_right; rw [hq6])
  · refine lv_astore_n (lv' := [(2, .ref a3), (0, .ref vv), (1, .int t)]) hx hb d_V_rightOf_5 rfl hl (by decide) rfl (fun ls hl => ?_)
    refine lv_aload_n hx hb d_V_rightOf_6 rfl (lv_at hl 0 rfl) ?_
    refine lv_ifnonnull (tgt := 14) hx hb d_V_rightOf_7 (by decide) ?_
    refine lv_aload_n hx hb d_V_rightOf_14 rfl (lv_at hl 0 rfl) ?_
    refine va_get (D := D) (ci := 1) (v := .int (oI (tR (tb k4)))) (C := "ValueTrees$Type") (T := T_Type) (N := 5) hx hb ht in_Type hown hK.1 (z_1 oa3) 0 rfl rfl 2 (by decide) (ht _ q69) (fun _ h9 => h9) rfl d_V_rightOf_15 ?_
    exact z_iretR hx hb hr hlocks d_V_rightOf_18 (by unfold a_right; rw [hq6])
abbrev b_V_sideType : ByteArray := prog_1_method_36_code
abbrev y_V_sideType : MethodName := ⟨"ValueTrees", "sideType", "(II)I"⟩
abbrev w_V_sideType : List Cond := .code y_V_sideType b_V_sideType 4 (Option.some .int) :: gt
theorem hd_V_sideType : (y_V_sideType).cls ≠ "java/lang/invoke/MethodHandle" ∧ (y_V_sideType).cls ≠ "java/lang/invoke/VarHandle" ∧ (parseMethodDescriptor (y_V_sideType).desc).map (fun d => d.parameters.length) = some 2 := by decide +kernel
theorem d_V_sideType_0 : decode b_V_sideType 0 = .ok (.aload_n 0, 1) := by decide +kernel
theorem d_V_sideType_1 : decode b_V_sideType 1 = .ok (.iload_n 1, 1) := by decide +kernel
theorem d_V_sideType_2 : decode b_V_sideType 2 = .ok (.invokevirtual 109, 3) := by decide +kernel
theorem d_V_sideType_5 : decode b_V_sideType 5 = .ok (.istore_n 3, 1) := by decide +kernel
theorem d_V_sideType_6 : decode b_V_sideType 6 = .ok (.iload_n 2, 1) := by decide +kernel
theorem d_V_sideType_7 : decode b_V_sideType 7 = .ok (.ifCond .ne 21, 3) := by decide +kernel
theorem d_V_sideType_10 : decode b_V_sideType 10 = .ok (.iload_n 3, 1) := by decide +kernel
theorem d_V_sideType_11 : decode b_V_sideType 11 = .ok (.bipush 10, 2) := by decide +kernel
theorem d_V_sideType_13 : decode b_V_sideType 13 = .ok (.if_icmp .eq 9, 3) := by decide +kernel
theorem d_V_sideType_16 : decode b_V_sideType 16 = .ok (.iload_n 3, 1) := by decide +kernel
theorem d_V_sideType_17 : decode b_V_sideType 17 = .ok (.bipush 14, 2) := by decide +kernel
theorem d_V_sideType_19 : decode b_V_sideType 19 = .ok (.if_icmp .ne 9, 3) := by decide +kernel
theorem d_V_sideType_22 : decode b_V_sideType 22 = .ok (.aload_n 0, 1) := by decide +kernel
theorem d_V_sideType_23 : decode b_V_sideType 23 = .ok (.iload_n 1, 1) := by decide +kernel
theorem d_V_sideType_24 : decode b_V_sideType 24 = .ok (.invokevirtual 144, 3) := by decide +kernel
theorem d_V_sideType_27 : decode b_V_sideType 27 = .ok (.ireturn, 1) := by decide +kernel
theorem d_V_sideType_28 : decode b_V_sideType 28 = .ok (.iload_n 2, 1) := by decide +kernel
theorem d_V_sideType_29 : decode b_V_sideType 29 = .ok (.iconst 1, 1) := by decide +kernel
theorem d_V_sideType_30 : decode b_V_sideType 30 = .ok (.if_icmp .ne 17, 3) := by decide +kernel
theorem d_V_sideType_33 : decode b_V_sideType 33 = .ok (.iload_n 3, 1) := by decide +kernel
theorem d_V_sideType_34 : decode b_V_sideType 34 = .ok (.bipush 14, 2) := by decide +kernel
theorem d_V_sideType_36 : decode b_V_sideType 36 = .ok (.if_icmp .ne 11, 3) := by decide +kernel
theorem d_V_sideType_39 : decode b_V_sideType 39 = .ok (.aload_n 0, 1) := by decide +kernel
theorem d_V_sideType_40 : decode b_V_sideType 40 = .ok (.iload_n 1, 1) := by decide +kernel
theorem d_V_sideType_41 : decode b_V_sideType 41 = .ok (.invokevirtual 162, 3) := by decide +kernel
theorem d_V_sideType_44 : decode b_V_sideType 44 = .ok (.goto 4, 3) := by decide +kernel
theorem d_V_sideType_47 : decode b_V_sideType 47 = .ok (.iconst (-1), 1) := by decide +kernel
theorem d_V_sideType_48 : decode b_V_sideType 48 = .ok (.ireturn, 1) := by decide +kernel
set_option maxHeartbeats 4000000 in
set_option maxRecDepth 100000 in
theorem c_V_sideType (l : Launch) (D : va_G) (dT : Nat → ClassId) (H : Heap) (Bq : Nat → Prop) (vv rg li ed : Nat) (tb : Nat → TR) (tc : Nat) (RV : Nat → Option VT) (hC : cI D dT Bq vv rg li ed tb tc RV H) (hV : vOK tb tc RV) (t sd9 : Int32) : Met l y_V_sideType w_V_sideType ({ frames := 5, cells := 0, slots := 0, locals := 107 }) (z_P D dT [.ref vv, .int t, .int sd9] H) (z_R (fun v => v = .int (a_side tb tc t sd9))) 0 0 (fun _ => False) := by
  obtain ⟨⟨hBs, hBr, hBl, hBe, hBv, hrl, hre, hle⟩, hvv, hCR, hCT⟩ := id hC
  have hO := hV.1
  have htc := hO.1
  have htc10 := hO.2.1
  refine Met.ofW (cc := b_V_sideType) (maxL := 4) (ret := (Option.some .int)) (by decide) rfl ?_
  intro p e s m args below meth c s₁ B hml hv
  obtain ⟨rfl, rfl, hK⟩ := hv
  have hx := B.exec
  have hb := B.bytes
  have hr := B.returns
  have hts := atoms_spec (ws := w_V_sideType) B.pre
  have ht : ∀ w9 ∈ gt, w9.before [.ref vv, .int t, .int sd9].toArray s = true := fun w9 h => hts w9 (List.mem_cons_of_mem _ h)
  have hown : s.vm.findClass "ValueTrees" = some m.cls := findClass_of_methodNamed B.named
  have hlocks := B.notSynchronized
  have hl := lv_entry ([.ref vv, .int t, .int sd9]) (n := 4) (Nat.le_of_ble_eq_true rfl)
  rw [lg_entry_eq]
  generalize (lg_sl ([.ref vv, .int t, .int sd9]) ++ List.replicate (4 - (lg_sl ([.ref vv, .int t, .int sd9])).length) Slot.unset).toArray = ls at hl ⊢
  have hl : lv_has ls 4 [(0, .ref vv), (1, .int t), (2, .int sd9)] := hl
  refine lv_aload_n hx hb d_V_sideType_0 rfl (lv_at hl 0 rfl) ?_
  refine lv_iload_n hx hb d_V_sideType_1 rfl (lv_at hl 1 rfl) ?_
  refine z_callR (va_runV (C := "ValueTrees") (As := [.int t]) (rest := []) ⟨hx, hb, hml, hown, hts⟩ (c_V_wordOf l D dT _ Bq vv rg li ed tb tc RV hC hV t) ⟨callB_of 1 hts (gI gd_up gd_c q327) rfl rfl rfl (ht _ q1) (ht _ q324) hd_V_wordOf ⟨Nat.le_of_ble_eq_true rfl, Nat.le_of_ble_eq_true rfl⟩, ht _ q326, ht _ qs8⟩ (z_preV hK (va_recv hK.1 (z_1 hvv) (ci := 0) (q0 := 0) rfl rfl)) rfl rfl hl.1 rfl (lv_room (Nat.le_of_ble_eq_true rfl)) d_V_sideType_2 ⟨Nat.zero_le _, Nat.zero_le _⟩) (fun v2 hv1 => ?_)
  subst hv1
  refine lv_istore_n (lv' := [(3, .int (a_word tb tc t)), (0, .ref vv), (1, .int t), (2, .int sd9)]) hx hb d_V_sideType_5 rfl hl (by decide) rfl (fun ls hl => ?_)
  refine lv_iload_n hx hb d_V_sideType_6 rfl (lv_at hl 3 rfl) ?_
  refine lv_if_ne (tgt := 28) hx hb d_V_sideType_7 (by decide) (fun c3 => ?_) (fun c3 => ?_)
  · refine lv_iload_n hx hb d_V_sideType_28 rfl (lv_at hl 3 rfl) ?_
    refine lv_iconst (v := 1) hx hb d_V_sideType_29 (by decide) ?_
    refine lv_icmp_ne (tgt := 47) hx hb d_V_sideType_30 (by decide) (fun c4 => ?_) (fun c4 => ?_)
    · refine lv_iconst (v := (-1)) hx hb d_V_sideType_47 (by decide) ?_
      exact z_iretR hx hb hr hlocks d_V_sideType_48 (by first | (exfalso; (revert c3 c4; simp only [inR, isNum, isRw, isTr, hasV, Int32.lt_iff_toInt_lt, Int32.le_iff_toInt_le, ← Int32.toInt_inj, Int32.reduceToInt, z_m1, z_m2]; (try intros); omega)) | (unfold a_side; repeat (first | rfl | rw [if_pos (by (revert c3 c4; simp only [inR, isNum, isRw, isTr, hasV, Int32.lt_iff_toInt_lt, Int32.le_iff_toInt_le, ← Int32.toInt_inj, Int32.reduceToInt, z_m1, z_m2]; (try intros); omega))] | rw [if_neg (by (revert c3 c4; simp only [inR, isNum, isRw, isTr, hasV, Int32.lt_iff_toInt_lt, Int32.le_iff_toInt_le, ← Int32.toInt_inj, Int32.reduceToInt, z_m1, z_m2]; (try intros); omega))])))
    · refine lv_iload_n hx hb d_V_sideType_33 rfl (lv_at hl 0 rfl) ?_
      refine lv_bipush (v := 14) hx hb d_V_sideType_34 (by decide) ?_
      refine lv_icmp_ne (tgt := 47) hx hb d_V_sideType_36 (by decide) (fun c5 => ?_) (fun c5 => ?_)
      · refine lv_iconst (v := (-1)) hx hb d_V_sideType_47 (by decide) ?_
        exact z_iretR hx hb hr hlocks d_V_sideType_48 (by first | (exfalso; (revert c3 c4 c5; simp only [inR, isNum, isRw, isTr, hasV, Int32.lt_iff_toInt_lt, Int32.le_iff_toInt_le, ← Int32.toInt_inj, Int32.reduceToInt, z_m1, z_m2]; (try intros); omega)) | (unfold a_side; repeat (first | rfl | rw [if_pos (by (revert c3 c4 c5; simp only [inR, isNum, isRw, isTr, hasV, Int32.lt_iff_toInt_lt, Int32.le_iff_toInt_le, ← Int32.toInt_inj, Int32.reduceToInt, z_m1, z_m2]; (try intros); omega))] | rw [if_neg (by (revert c3 c4 c5; simp only [inR, isNum, isRw, isTr, hasV, Int32.lt_iff_toInt_lt, Int32.le_iff_toInt_le, ← Int32.toInt_inj, Int32.reduceToInt, z_m1, z_m2]; (try intros); omega))])))
      · refine lv_aload_n hx hb d_V_sideType_39 rfl (lv_at hl 1 rfl) ?_
        refine lv_iload_n hx hb d_V_sideType_40 rfl (lv_at hl 2 rfl) ?_
        refine z_callR (va_runV (C := "ValueTrees") (As := [.int t]) (rest := []) ⟨hx, hb, hml, hown, hts⟩ (c_V_rightOf l D dT _ Bq vv rg li ed tb tc RV hC hV t) ⟨callB_of 1 hts (gI gd_up gd_c q379) rfl rfl rfl (ht _ q1) (ht _ q376) hd_V_rightOf ⟨Nat.le_of_ble_eq_true rfl, Nat.le_of_ble_eq_true rfl⟩, ht _ q378, ht _ qs11⟩ (z_preV hK (va_recv hK.1 (z_1 hvv) (ci := 0) (q0 := 0) rfl rfl)) rfl rfl hl.1 rfl (lv_room (Nat.le_of_ble_eq_true rfl)) d_V_sideType_41 ⟨Nat.zero_le _, Nat.zero_le _⟩) (fun v7 hv6 => ?_)
        subst hv6
        refine lv_goto (tgt := 48) hx hb d_V_sideType_44 (by decide) ?_
        exact z_iretR hx hb hr hlocks d_V_sideType_48 (by first | (exfalso; (revert c3 c4 c5; simp only [inR, isNum, isRw, isTr, hasV, Int32.lt_iff_toInt_lt, Int32.le_iff_toInt_le, ← Int32.toInt_inj, Int32.reduceToInt, z_m1, z_m2]; (try intros); omega)) | (unfold a_side; repeat (first | rfl | rw [if_pos (by (revert c3 c4 c5; simp only [inR, isNum, isRw, isTr, hasV, Int32.lt_iff_toInt_lt, Int32.le_iff_toInt_le, ← Int32.toInt_inj, Int32.reduceToInt, z_m1, z_m2]; (try intros); omega))] | rw [if_neg (by (revert c3 c4 c5; simp only [inR, isNum, isRw, isTr, hasV, Int32.lt_iff_toInt_lt, Int32.le_iff_toInt_le, ← Int32.toInt_inj, Int32.reduceToInt, z_m1, z_m2]; (try intros); omega))])))
  · refine lv_iload_n hx hb d_V_sideType_10 rfl (lv_at hl 0 rfl) ?_
    refine lv_bipush (v := 10) hx hb d_V_sideType_11 (by decide) ?_
    refine lv_icmp_eq (tgt := 22) hx hb d_V_sideType_13 (by decide) (fun c8 => ?_) (fun c8 => ?_)
    · refine lv_aload_n hx hb d_V_sideType_22 rfl (lv_at hl 1 rfl) ?_
      refine lv_iload_n hx hb d_V_sideType_23 rfl (lv_at hl 2 rfl) ?_
      refine z_callR (va_runV (C := "ValueTrees") (As := [.int t]) (rest := []) ⟨hx, hb, hml, hown, hts⟩ (c_V_leftOf l D dT _ Bq vv rg li ed tb tc RV hC hV t) ⟨callB_of 1 hts (gI gd_up gd_c q375) rfl rfl rfl (ht _ q1) (ht _ q372) hd_V_leftOf ⟨Nat.le_of_ble_eq_true rfl, Nat.le_of_ble_eq_true rfl⟩, ht _ q374, ht _ qs10⟩ (z_preV hK (va_recv hK.1 (z_1 hvv) (ci := 0) (q0 := 0) rfl rfl)) rfl rfl hl.1 rfl (lv_room (Nat.le_of_ble_eq_true rfl)) d_V_sideType_24 ⟨Nat.zero_le _, Nat.zero_le _⟩) (fun v10 hv9 => ?_)
      subst hv9
      exact z_iretR hx hb hr hlocks d_V_sideType_27 (by first | (exfalso; (revert c3 c8; simp only [inR, isNum, isRw, isTr, hasV, Int32.lt_iff_toInt_lt, Int32.le_iff_toInt_le, ← Int32.toInt_inj, Int32.reduceToInt, z_m1, z_m2]; (try intros); omega)) | (unfold a_side; repeat (first | rfl | rw [if_pos (by (revert c3 c8; simp only [inR, isNum, isRw, isTr, hasV, Int32.lt_iff_toInt_lt, Int32.le_iff_toInt_le, ← Int32.toInt_inj, Int32.reduceToInt, z_m1, z_m2]; (try intros); omega))] | rw [if_neg (by (revert c3 c8; simp only [inR, isNum, isRw, isTr, hasV, Int32.lt_iff_toInt_lt, Int32.le_iff_toInt_le, ← Int32.toInt_inj, Int32.reduceToInt, z_m1, z_m2]; (try intros); omega))])))
    · refine lv_iload_n hx hb d_V_sideType_16 rfl (lv_at hl 0 rfl) ?_
      refine lv_bipush (v := 14) hx hb d_V_sideType_17 (by decide) ?_
      refine lv_icmp_ne (tgt := 28) hx hb d_V_sideType_19 (by decide) (fun c11 => ?_) (fun c11 => ?_)
      · refine lv_iload_n hx hb d_V_sideType_28 rfl (lv_at hl 3 rfl) ?_
        refine lv_iconst (v := 1) hx hb d_V_sideType_29 (by decide) ?_
        refine lv_icmp_ne (tgt := 47) hx hb d_V_sideType_30 (by decide) (fun c12 => ?_) (fun c12 => ?_)
        · refine lv_iconst (v := (-1)) hx hb d_V_sideType_47 (by decide) ?_
          exact z_iretR hx hb hr hlocks d_V_sideType_48 (by first | (exfalso; (revert c3 c8 c11 c12; simp only [inR, isNum, isRw, isTr, hasV, Int32.lt_iff_toInt_lt, Int32.le_iff_toInt_le, ← Int32.toInt_inj, Int32.reduceToInt, z_m1, z_m2]; (try intros); omega)) | (unfold a_side; repeat (first | rfl | rw [if_pos (by (revert c3 c8 c11 c12; simp only [inR, isNum, isRw, isTr, hasV, Int32.lt_iff_toInt_lt, Int32.le_iff_toInt_le, ← Int32.toInt_inj, Int32.reduceToInt, z_m1, z_m2]; (try intros); omega))] | rw [if_neg (by (revert c3 c8 c11 c12; simp only [inR, isNum, isRw, isTr, hasV, Int32.lt_iff_toInt_lt, Int32.le_iff_toInt_le, ← Int32.toInt_inj, Int32.reduceToInt, z_m1, z_m2]; (try intros); omega))])))
        · refine lv_iload_n hx hb d_V_sideType_33 rfl (lv_at hl 0 rfl) ?_
          refine lv_bipush (v := 14) hx hb d_V_sideType_34 (by decide) ?_
          refine lv_icmp_ne (tgt := 47) hx hb d_V_sideType_36 (by decide) (fun c13 => ?_) (fun c13 => ?_)
          · refine lv_iconst (v := (-1)) hx hb d_V_sideType_47 (by decide) ?_
            exact z_iretR hx hb hr hlocks d_V_sideType_48 (by first | (exfalso; (revert c3 c8 c11 c12 c13; simp only [inR, isNum, isRw, isTr, hasV, Int32.lt_iff_toInt_lt, Int32.le_iff_toInt_le, ← Int32.toInt_inj, Int32.reduceToInt, z_m1, z_m2]; (try intros); omega)) | (unfold a_side; repeat (first | rfl | rw [if_pos (by (revert c3 c8 c11 c12 c13; simp only [inR, isNum, isRw, isTr, hasV, Int32.lt_iff_toInt_lt, Int32.le_iff_toInt_le, ← Int32.toInt_inj, Int32.reduceToInt, z_m1, z_m2]; (try intros); omega))] | rw [if_neg (by (revert c3 c8 c11 c12 c13; simp only [inR, isNum, isRw, isTr, hasV, Int32.lt_iff_toInt_lt, Int32.le_iff_toInt_le, ← Int32.toInt_inj, Int32.reduceToInt, z_m1, z_m2]; (try intros); omega))])))
          · refine lv_aload_n hx hb d_V_sideType_39 rfl (lv_at hl 1 rfl) ?_
            refine lv_iload_n hx hb d_V_sideType_40 rfl (lv_at hl 2 rfl) ?_
            refine z_callR (va_runV (C := "ValueTrees") (As := [.int t]) (rest := []) ⟨hx, hb, hml, hown, hts⟩ (c_V_rightOf l D dT _ Bq vv rg li ed tb tc RV hC hV t) ⟨callB_of 1 hts (gI gd_up gd_c q379) rfl rfl rfl (ht _ q1) (ht _ q376) hd_V_rightOf ⟨Nat.le_of_ble_eq_true rfl, Nat.le_of_ble_eq_true rfl⟩, ht _ q378, ht _ qs11⟩ (z_preV hK (va_recv hK.1 (z_1 hvv) (ci := 0) (q0 := 0) rfl rfl)) rfl rfl hl.1 rfl (lv_room (Nat.le_of_ble_eq_true rfl)) d_V_sideType_41 ⟨Nat.zero_le _, Nat.zero_le _⟩) (fun v15 hv14 => ?_)
            subst hv14
            refine lv_goto (tgt := 48) hx hb d_V_sideType_44 (by decide) ?_
            exact z_iretR hx hb hr hlocks d_V_sideType_48 (by first | (exfalso; (revert c3 c8 c11 c12 c13; simp only [inR, isNum, isRw, isTr, hasV, Int32.lt_iff_toInt_lt, Int32.le_iff_toInt_le, ← Int32.toInt_inj, Int32.reduceToInt, z_m1, z_m2]; (try intros); omega)) | (unfold a_side; repeat (first | rfl | rw [if_pos (by (revert c3 c8 c11 c12 c13; simp only [inR, isNum, isRw, isTr, hasV, Int32.lt_iff_toInt_lt, Int32.le_iff_toInt_le, ← Int32.toInt_inj, Int32.reduceToInt, z_m1, z_m2]; (try intros); omega))] | rw [if_neg (by (revert c3 c8 c11 c12 c13; simp only [inR, isNum, isRw, isTr, hasV, Int32.lt_iff_toInt_lt, Int32.le_iff_toInt_le, ← Int32.toInt_inj, Int32.reduceToInt, z_m1, z_m2]; (try intros); omega))])))
      · refine lv_aload_n hx hb d_V_sideType_22 rfl (lv_at hl 1 rfl) ?_
        refine lv_iload_n hx hb d_V_sideType_23 rfl (lv_at hl 2 rfl) ?_
        refine z_callR (va_runV (C := "ValueTrees") (As := [.int t]) (rest := []) ⟨hx, hb, hml, hown, hts⟩ (c_V_leftOf l D dT _ Bq vv rg li ed tb tc RV hC hV t) ⟨callB_of 1 hts (gI gd_up gd_c q375) rfl rfl rfl (ht _ q1) (ht _ q372) hd_V_leftOf ⟨Nat.le_of_ble_eq_true rfl, Nat.le_of_ble_eq_true rfl⟩, ht _ q374, ht _ qs10⟩ (z_preV hK (va_recv hK.1 (z_1 hvv) (ci := 0) (q0 := 0) rfl rfl)) rfl rfl hl.1 rfl (lv_room (Nat.le_of_ble_eq_true rfl)) d_V_sideType_24 ⟨Nat.zero_le _, Nat.zero_le _⟩) (fun v17 hv16 => ?_)
        subst hv16
        exact z_iretR hx hb hr hlocks d_V_sideType_27 (by first | (exfalso; (revert c3 c8 c11; simp only [inR, isNum, isRw, isTr, hasV, Int32.lt_iff_toInt_lt, Int32.le_iff_toInt_le, ← Int32.toInt_inj, Int32.reduceToInt, z_m1, z_m2]; (try intros); omega)) | (unfold a_side; repeat (first | rfl | rw [if_pos (by (revert c3 c8 c11; simp only [inR, isNum, isRw, isTr, hasV, Int32.lt_iff_toInt_lt, Int32.le_iff_toInt_le, ← Int32.toInt_inj, Int32.reduceToInt, z_m1, z_m2]; (try intros); omega))] | rw [if_neg (by (revert c3 c8 c11; simp only [inR, isNum, isRw, isTr, hasV, Int32.lt_iff_toInt_lt, Int32.le_iff_toInt_le, ← Int32.toInt_inj, Int32.reduceToInt, z_m1, z_m2]; (try intros); omega))])))
abbrev b_V_held : ByteArray := prog_1_method_29_code
abbrev y_V_held : MethodName := ⟨"ValueTrees", "held", "(I)LValueTrees$Value;"⟩
abbrev w_V_held : List Cond := .code y_V_held b_V_held 2 (Option.some (.object "ValueTrees$Value")) :: gt
theorem hd_V_held : (y_V_held).cls ≠ "java/lang/invoke/MethodHandle" ∧ (y_V_held).cls ≠ "java/lang/invoke/VarHandle" ∧ (parseMethodDescriptor (y_V_held).desc).map (fun d => d.parameters.length) = some 1 := by decide +kernel
theorem d_V_held_0 : decode b_V_held 0 = .ok (.iload_n 1, 1) := by decide +kernel
theorem d_V_held_1 : decode b_V_held 1 = .ok (.invokestatic 130, 3) := by decide +kernel
theorem d_V_held_4 : decode b_V_held 4 = .ok (.ifCond .eq 12, 3) := by decide +kernel
theorem d_V_held_7 : decode b_V_held 7 = .ok (.aload_n 0, 1) := by decide +kernel
theorem d_V_held_8 : decode b_V_held 8 = .ok (.getfield 31, 3) := by decide +kernel
theorem d_V_held_11 : decode b_V_held 11 = .ok (.iload_n 1, 1) := by decide +kernel
theorem d_V_held_12 : decode b_V_held 12 = .ok (.aaload, 1) := by decide +kernel
theorem d_V_held_13 : decode b_V_held 13 = .ok (.goto 4, 3) := by decide +kernel
theorem d_V_held_16 : decode b_V_held 16 = .ok (.aconst_null, 1) := by decide +kernel
theorem d_V_held_17 : decode b_V_held 17 = .ok (.areturn, 1) := by decide +kernel
set_option maxHeartbeats 4000000 in
set_option maxRecDepth 100000 in
theorem c_V_held (l : Launch) (D : va_G) (dT : Nat → ClassId) (H : Heap) (Bq : Nat → Prop) (vv rg li ed : Nat) (tb : Nat → TR) (tc : Nat) (RV : Nat → Option VT) (hC : cI D dT Bq vv rg li ed tb tc RV H) (hV : vOK tb tc RV) (r : Int32) : Met l y_V_held w_V_held ({ frames := 1, cells := 0, slots := 0, locals := 20 }) (z_P D dT [.ref vv, .int r] H) (z_R (hdP D dT Bq RV r H)) 0 0 (fun _ => False) := by
  obtain ⟨⟨hBs, hBr, hBl, hBe, hBv, hrl, hre, hle⟩, hvv, hCR, hCT⟩ := id hC
  have hO := hV.1
  have htc := hO.1
  have htc10 := hO.2.1
  obtain ⟨fr, hfr, hRVs⟩ := id hCR
  refine Met.ofW (cc := b_V_held) (maxL := 2) (ret := (Option.some (.object "ValueTrees$Value"))) (by decide) rfl ?_
  intro p e s m args below meth c s₁ B hml hv
  obtain ⟨rfl, rfl, hK⟩ := hv
  have hx := B.exec
  have hb := B.bytes
  have hr := B.returns
  have hts := atoms_spec (ws := w_V_held) B.pre
  have ht : ∀ w9 ∈ gt, w9.before [.ref vv, .int r].toArray s = true := fun w9 h => hts w9 (List.mem_cons_of_mem _ h)
  have hown : s.vm.findClass "ValueTrees" = some m.cls := findClass_of_methodNamed B.named
  have hlocks := B.notSynchronized
  have hl := lv_entry ([.ref vv, .int r]) (n := 2) (Nat.le_of_ble_eq_true rfl)
  rw [lg_entry_eq]
  generalize (lg_sl ([.ref vv, .int r]) ++ List.replicate (2 - (lg_sl ([.ref vv, .int r])).length) Slot.unset).toArray = ls at hl ⊢
  have hl : lv_has ls 2 [(0, .ref vv), (1, .int r)] := hl
  refine lv_iload_n hx hb d_V_held_0 rfl (lv_at hl 1 rfl) ?_
  refine z_callR (va_runS (As := [.int r]) (rest := []) ⟨hx, hb, hml, hown, hts⟩ (c_V_isRegister l D dT _ r) ⟨callB_of 1 hts (gI gd_up gd_c q267) rfl rfl rfl (ht _ q1) (ht _ q265) hd_V_isRegister ⟨Nat.le_of_ble_eq_true rfl, Nat.le_of_ble_eq_true rfl⟩, ht _ q266⟩ (z_preS hK) rfl rfl hl.1 rfl (lv_room (Nat.le_of_ble_eq_true rfl)) d_V_held_1 ⟨Nat.zero_le _, Nat.zero_le _⟩) (fun v2 hv1 => ?_)
  have hv1 : v2 = .int (if inR r then 1 else 0) := hv1
  rcases Classical.em (inR r) with hq3 | hq3
  · rw [if_pos hq3] at hv1
    subst hv1
    refine lv_if_eq (tgt := 16) hx hb d_V_held_4 (by decide) (fun c4 => absurd c4 (by decide)) (fun _ => ?_)
    obtain ⟨j, hj, rfl⟩ := inR_of hq3
    cases hVj : RV j with
    | none =>
      have hfj := (hRVs j hj).1 hVj
      refine lv_aload_n hx hb d_V_held_7 rfl (lv_at hl 0 rfl) ?_
      refine va_get (D := D) (ci := 0) (v := .ref rg) (C := "ValueTrees") (T := T_V) (N := 2) hx hb ht in_V hown hK.1 (z_1 hvv) 0 rfl rfl 1 (by decide) (ht _ q146) (fun _ h9 => h9) rfl d_V_held_8 ?_
      refine lv_iload_n hx hb d_V_held_11 rfl (lv_at hl 1 rfl) ?_
      refine z_aald (v := .null) hx hb hK hfr rfl j rfl hj (by decide) (by rw [hfj]; rfl) d_V_held_12 ?_
      refine lv_goto (tgt := 17) hx hb d_V_held_13 (by decide) ?_
      exact z_aretR hx hb hr hlocks d_V_held_17 (Or.inl ⟨_, rfl⟩) (Or.inl rfl) (Or.inl ⟨rfl, by rw [rgs_nI hj]; exact hVj⟩)
    | some w9 =>
      obtain ⟨a9, hfj, hav⟩ := (hRVs j hj).2 w9 hVj
      refine lv_aload_n hx hb d_V_held_7 rfl (lv_at hl 0 rfl) ?_
      refine va_get (D := D) (ci := 0) (v := .ref rg) (C := "ValueTrees") (T := T_V) (N := 2) hx hb ht in_V hown hK.1 (z_1 hvv) 0 rfl rfl 1 (by decide) (ht _ q146) (fun _ h9 => h9) rfl d_V_held_8 ?_
      refine lv_iload_n hx hb d_V_held_11 rfl (lv_at hl 1 rfl) ?_
      refine z_aald (v := .ref a9) hx hb hK hfr rfl j rfl hj (by decide) (by rw [hfj]; rfl) d_V_held_12 ?_
      refine lv_goto (tgt := 17) hx hb d_V_held_13 (by decide) ?_
      exact z_aretR hx hb hr hlocks d_V_held_17 (Or.inl ⟨_, rfl⟩) (Or.inr ⟨_, rfl⟩) (Or.inr ⟨a9, w9, rfl, by rw [rgs_nI hj]; exact hVj, hav⟩)
  · rw [if_neg hq3] at hv1
    subst hv1
    refine lv_if_eq (tgt := 16) hx hb d_V_held_4 (by decide) (fun _ => ?_) (fun c5 => absurd c5 (by decide))
    refine lv_null hx hb d_V_held_16 ?_
    exact z_aretR hx hb hr hlocks d_V_held_17 (Or.inl ⟨_, rfl⟩) (Or.inl rfl) (Or.inl ⟨rfl, rgs_out hq3⟩)
