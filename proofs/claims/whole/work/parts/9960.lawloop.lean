theorem d_L_0 : decode code 0 = .ok (.new 7, 3) := by decide +kernel
theorem d_L_3 : decode code 3 = .ok (.dup, 1) := by decide +kernel
theorem d_L_4 : decode code 4 = .ok (.invokespecial 9, 3) := by decide +kernel
theorem d_L_7 : decode code 7 = .ok (.astore_n 1, 1) := by decide +kernel
theorem d_L_8 : decode code 8 = .ok (.new 10, 3) := by decide +kernel
theorem d_L_11 : decode code 11 = .ok (.dup, 1) := by decide +kernel
theorem d_L_12 : decode code 12 = .ok (.invokespecial 12, 3) := by decide +kernel
theorem d_L_15 : decode code 15 = .ok (.astore_n 2, 1) := by decide +kernel
theorem d_L_16 : decode code 16 = .ok (.iconst 0, 1) := by decide +kernel
theorem d_L_17 : decode code 17 = .ok (.istore_n 3, 1) := by decide +kernel
theorem d_L_18 : decode code 18 = .ok (.iload_n 3, 1) := by decide +kernel
theorem d_L_19 : decode code 19 = .ok (.aload_n 0, 1) := by decide +kernel
theorem d_L_20 : decode code 20 = .ok (.arraylength, 1) := by decide +kernel
theorem d_L_21 : decode code 21 = .ok (.bipush 6, 2) := by decide +kernel
theorem d_L_23 : decode code 23 = .ok (.isub, 1) := by decide +kernel
theorem d_L_24 : decode code 24 = .ok (.if_icmp .gt 1152, 3) := by decide +kernel
theorem d_L_27 : decode code 27 = .ok (.aload_n 0, 1) := by decide +kernel
theorem d_L_28 : decode code 28 = .ok (.iload_n 3, 1) := by decide +kernel
theorem d_L_29 : decode code 29 = .ok (.iaload, 1) := by decide +kernel
theorem d_L_30 : decode code 30 = .ok (.bipush 31, 2) := by decide +kernel
theorem d_L_32 : decode code 32 = .ok (.iand, 1) := by decide +kernel
theorem d_L_33 : decode code 33 = .ok (.tableswitch 1137 0 25 #[119, 162, 195, 268, 311, 394, 427, 460, 513, 556, 599, 652, 695, 738, 781, 834, 867, 890, 913, 936, 959, 982, 1015, 1038, 1071, 1104], 119) := by decide +kernel
theorem d_L_1170 : decode code 1170 = .ok (.iinc 3 6, 3) := by decide +kernel
theorem d_L_1173 : decode code 1173 = .ok (.goto (-1155), 3) := by decide +kernel
theorem d_L_1176 : decode code 1176 = .ok (.iconst 1, 1) := by decide +kernel
theorem d_L_1177 : decode code 1177 = .ok (.ireturn, 1) := by decide +kernel
theorem and31 (x : Int32) : ∃ j, j < 32 ∧ x &&& 31 = nI j := by
  refine ⟨(x &&& 31).toBitVec.toNat, ?_, ?_⟩
  · rw [Int32.toBitVec_and, BitVec.toNat_and]
    exact Nat.lt_of_le_of_lt Nat.and_le_right (by decide)
  · apply Int32.toBitVec_inj.mp
    show _ = BitVec.ofNat 32 _
    apply BitVec.eq_of_toNat_eq
    rw [BitVec.toNat_ofNat]
    exact (Nat.mod_eq_of_lt (BitVec.isLt _)).symm
set_option maxHeartbeats 4000000 in
set_option maxRecDepth 100000 in
theorem law_loop (l : Launch) {p : Program} {e : Env} {s : State} {m : MethodId} {below : List Frame} {meth : Method} {c : Code} {b L : Nat} {xs : Nat → Int32} (hL : L ≤ 3072) (C0 : lw_At p s m meth c b L xs) (D : va_G) (dT : Nat → ClassId) (hK : z_K D dT s) (vv rg li : Nat) (mm : Nat → Nat) : ∀ (n k9 : Nat), 513 - k9 < n → 6 * k9 ≤ L → ∀ (H : Heap) (locs : List Loc) (ls : Array Slot), lv_has ls 4 [(3, .int (nI (6 * k9))), (2, .ref (mm 0)), (1, .ref vv), (0, .ref b)] → va_S (fun q => s.heap.size ≤ q) s.heap H locs → lI D dT s.heap.size vv rg li mm H → W p l e room_1 s m #[Value.ref b] below meth c H locs (33 + 5 * k9) (36365 + 3100 * k9) (lw_Z below #[Value.ref b] s) (F0 m 18 ls []) := by
  intro n
  induction n with
  | zero => intro k9 h; exact absurd h (Nat.not_lt_zero _)
  | succ n ih =>
    intro k9 hn hk H locs ls hl hS hI
    have C1 := C0
    obtain ⟨hx, hb, hr, hml, hown, hts, hX, hbl, hlocks, hgv⟩ := C0
    have hbA : ¬ (fun q => s.heap.size ≤ q) b := Nat.not_le.mpr hbl
    have cont : ∀ (H : Heap) (locs : List Loc) (ls : Array Slot), 6 * k9 + 6 ≤ L → lv_has ls 4 [(3, .int (nI (6 * k9))), (2, .ref (mm 0)), (1, .ref vv), (0, .ref b)] → va_S (fun q => s.heap.size ≤ q) s.heap H locs → lI D dT s.heap.size vv rg li mm H → W p l e room_1 s m #[Value.ref b] below meth c H locs (33 + 5 * k9 + 5) (36365 + 3100 * k9 + 3100) (lw_Z below #[Value.ref b] s) (F0 m 1170 ls []) := by
      intro H locs ls h6 hl hS hI
      refine lv_iinc (v := nI (6 * (k9 + 1))) (lv' := [(3, .int (nI (6 * (k9 + 1)))), (2, .ref (mm 0)), (1, .ref vv), (0, .ref b)]) hx hb d_L_1170 hl (k := 0) rfl (by rw [show 6 * (k9 + 1) = 6 * k9 + 6 by omega]; exact nI_add (6 * k9) 6) (by decide) rfl (fun ls hl => ?_)
      refine lv_goto (tgt := 18) hx hb d_L_1173 (by decide) ?_
      have h := ih (k9 + 1) (by omega) (by omega) H locs ls hl hS hI
      rw [show 33 + 5 * (k9 + 1) = 33 + 5 * k9 + 5 by omega, show 36365 + 3100 * (k9 + 1) = 36365 + 3100 * k9 + 3100 by omega] at h
      exact h
    refine lv_iload_n hx hb d_L_18 rfl (lv_at hl 0 rfl) ?_
    refine lv_aload_n hx hb d_L_19 rfl (lv_at hl 3 rfl) ?_
    refine va_slen hx hb hX hbl hbA hS d_L_20 ?_
    refine lv_bipush (v := 6) hx hb d_L_21 (by decide) ?_
    refine lv_isub hx hb d_L_23 ?_
    refine lv_icmp_gt (tgt := 1176) hx hb d_L_24 (by decide) (fun c1 => ?_) (fun c1 => ?_)
    · refine lv_iconst (v := 1) hx hb d_L_1176 (by decide) ?_
      refine va_forget (fun q hq => hS.2.2 q hq) ?_
      refine W.widen (k := 600000) (n := 7302250) (by omega) (by omega) ?_
      exact lw_ret hx hb hr hlocks d_L_1177
    have h6 : 6 * k9 + 6 ≤ L := lw_lim hL (by omega) c1
    refine lv_aload_n hx hb d_L_27 rfl (lv_at hl 3 rfl) ?_
    refine lv_iload_n hx hb d_L_28 rfl (lv_at hl 0 rfl) ?_
    refine z_sld hx hb hX hbl hbA hS (6 * k9) rfl (by omega) hL d_L_29 ?_
    refine lv_bipush (v := 31) hx hb d_L_30 (by decide) ?_
    refine lv_iand hx hb d_L_32 ?_
    obtain ⟨j, hj, hz⟩ := and31 (xs (6 * k9))
    rw [hz]
    rcases (show j = 0 ∨ j = 1 ∨ j = 2 ∨ j = 3 ∨ j = 4 ∨ j = 5 ∨ j = 6 ∨ j = 7 ∨ j = 8 ∨ j = 9 ∨ j = 10 ∨ j = 11 ∨ j = 12 ∨ j = 13 ∨ j = 14 ∨ j = 15 ∨ j = 16 ∨ j = 17 ∨ j = 18 ∨ j = 19 ∨ j = 20 ∨ j = 21 ∨ j = 22 ∨ j = 23 ∨ j = 24 ∨ j = 25 ∨ j = 26 ∨ j = 27 ∨ j = 28 ∨ j = 29 ∨ j = 30 ∨ j = 31 by omega) with rfl | rfl | rfl | rfl | rfl | rfl | rfl | rfl | rfl | rfl | rfl | rfl | rfl | rfl | rfl | rfl | rfl | rfl | rfl | rfl | rfl | rfl | rfl | rfl | rfl | rfl | rfl | rfl | rfl | rfl | rfl | rfl
    · refine lv_tableIn (tgt := 152) hx hb d_L_33 (by decide) (by decide) rfl (by decide) ?_
      exact law_c0 l hL C1 D dT hK vv rg li mm k9 h6 H locs _ _ ls hl hS hI (by omega) (by omega) (fun H locs ls hl hS hI => cont H locs ls h6 hl hS hI)
    · refine lv_tableIn (tgt := 195) hx hb d_L_33 (by decide) (by decide) rfl (by decide) ?_
      exact law_c1 l hL C1 D dT hK vv rg li mm k9 h6 H locs _ _ ls hl hS hI (by omega) (by omega) (fun H locs ls hl hS hI => cont H locs ls h6 hl hS hI)
    · refine lv_tableIn (tgt := 228) hx hb d_L_33 (by decide) (by decide) rfl (by decide) ?_
      exact law_c2 l hL C1 D dT hK vv rg li mm k9 h6 H locs _ _ ls hl hS hI (by omega) (by omega) (fun H locs ls hl hS hI => cont H locs ls h6 hl hS hI)
    · refine lv_tableIn (tgt := 301) hx hb d_L_33 (by decide) (by decide) rfl (by decide) ?_
      exact law_c3 l hL C1 D dT hK vv rg li mm k9 h6 H locs _ _ ls hl hS hI (by omega) (by omega) (fun H locs ls hl hS hI => cont H locs ls h6 hl hS hI)
    · refine lv_tableIn (tgt := 344) hx hb d_L_33 (by decide) (by decide) rfl (by decide) ?_
      exact law_c4 l hL C1 D dT hK vv rg li mm k9 h6 H locs _ _ ls hl hS hI (by omega) (by omega) (fun H locs ls hl hS hI => cont H locs ls h6 hl hS hI)
    · refine lv_tableIn (tgt := 427) hx hb d_L_33 (by decide) (by decide) rfl (by decide) ?_
      exact law_c5 l hL C1 D dT hK vv rg li mm k9 h6 H locs _ _ ls hl hS hI (by omega) (by omega) (fun H locs ls hl hS hI => cont H locs ls h6 hl hS hI)
    · refine lv_tableIn (tgt := 460) hx hb d_L_33 (by decide) (by decide) rfl (by decide) ?_
      exact law_c6 l hL C1 D dT hK vv rg li mm k9 h6 H locs _ _ ls hl hS hI (by omega) (by omega) (fun H locs ls hl hS hI => cont H locs ls h6 hl hS hI)
    · refine lv_tableIn (tgt := 493) hx hb d_L_33 (by decide) (by decide) rfl (by decide) ?_
      exact law_c7 l hL C1 D dT hK vv rg li mm k9 h6 H locs _ _ ls hl hS hI (by omega) (by omega) (fun H locs ls hl hS hI => cont H locs ls h6 hl hS hI)
    · refine lv_tableIn (tgt := 546) hx hb d_L_33 (by decide) (by decide) rfl (by decide) ?_
      exact law_c8 l hL C1 D dT hK vv rg li mm k9 h6 H locs _ _ ls hl hS hI (by omega) (by omega) (fun H locs ls hl hS hI => cont H locs ls h6 hl hS hI)
    · refine lv_tableIn (tgt := 589) hx hb d_L_33 (by decide) (by decide) rfl (by decide) ?_
      exact law_c9 l hL C1 D dT hK vv rg li mm k9 h6 H locs _ _ ls hl hS hI (by omega) (by omega) (fun H locs ls hl hS hI => cont H locs ls h6 hl hS hI)
    · refine lv_tableIn (tgt := 632) hx hb d_L_33 (by decide) (by decide) rfl (by decide) ?_
      exact law_c10 l hL C1 D dT hK vv rg li mm k9 h6 H locs _ _ ls hl hS hI (by omega) (by omega) (fun H locs ls hl hS hI => cont H locs ls h6 hl hS hI)
    · refine lv_tableIn (tgt := 685) hx hb d_L_33 (by decide) (by decide) rfl (by decide) ?_
      exact law_c11 l hL C1 D dT hK vv rg li mm k9 h6 H locs _ _ ls hl hS hI (by omega) (by omega) (fun H locs ls hl hS hI => cont H locs ls h6 hl hS hI)
    · refine lv_tableIn (tgt := 728) hx hb d_L_33 (by decide) (by decide) rfl (by decide) ?_
      exact law_c12 l hL C1 D dT hK vv rg li mm k9 h6 H locs _ _ ls hl hS hI (by omega) (by omega) (fun H locs ls hl hS hI => cont H locs ls h6 hl hS hI)
    · refine lv_tableIn (tgt := 771) hx hb d_L_33 (by decide) (by decide) rfl (by decide) ?_
      exact law_c13 l hL C1 D dT hK vv rg li mm k9 h6 H locs _ _ ls hl hS hI (by omega) (by omega) (fun H locs ls hl hS hI => cont H locs ls h6 hl hS hI)
    · refine lv_tableIn (tgt := 814) hx hb d_L_33 (by decide) (by decide) rfl (by decide) ?_
      exact law_c14 l hL C1 D dT hK vv rg li mm k9 h6 H locs _ _ ls hl hS hI (by omega) (by omega) (fun H locs ls hl hS hI => cont H locs ls h6 hl hS hI)
    · refine lv_tableIn (tgt := 867) hx hb d_L_33 (by decide) (by decide) rfl (by decide) ?_
      exact law_c15 l hL C1 D dT hK vv rg li mm k9 h6 H locs _ _ ls hl hS hI (by omega) (by omega) (fun H locs ls hl hS hI => cont H locs ls h6 hl hS hI)
    · refine lv_tableIn (tgt := 900) hx hb d_L_33 (by decide) (by decide) rfl (by decide) ?_
      exact law_c16 l hL C1 D dT hK vv rg li mm k9 h6 H locs _ _ ls hl hS hI (by omega) (by omega) (fun H locs ls hl hS hI => cont H locs ls h6 hl hS hI)
    · refine lv_tableIn (tgt := 923) hx hb d_L_33 (by decide) (by decide) rfl (by decide) ?_
      exact law_c17 l hL C1 D dT hK vv rg li mm k9 h6 H locs _ _ ls hl hS hI (by omega) (by omega) (fun H locs ls hl hS hI => cont H locs ls h6 hl hS hI)
    · refine lv_tableIn (tgt := 946) hx hb d_L_33 (by decide) (by decide) rfl (by decide) ?_
      exact law_c18 l hL C1 D dT hK vv rg li mm k9 h6 H locs _ _ ls hl hS hI (by omega) (by omega) (fun H locs ls hl hS hI => cont H locs ls h6 hl hS hI)
    · refine lv_tableIn (tgt := 969) hx hb d_L_33 (by decide) (by decide) rfl (by decide) ?_
      exact law_c19 l hL C1 D dT hK vv rg li mm k9 h6 H locs _ _ ls hl hS hI (by omega) (by omega) (fun H locs ls hl hS hI => cont H locs ls h6 hl hS hI)
    · refine lv_tableIn (tgt := 992) hx hb d_L_33 (by decide) (by decide) rfl (by decide) ?_
      exact law_c20 l hL C1 D dT hK vv rg li mm k9 h6 H locs _ _ ls hl hS hI (by omega) (by omega) (fun H locs ls hl hS hI => cont H locs ls h6 hl hS hI)
    · refine lv_tableIn (tgt := 1015) hx hb d_L_33 (by decide) (by decide) rfl (by decide) ?_
      exact law_c21 l hL C1 D dT hK vv rg li mm k9 h6 H locs _ _ ls hl hS hI (by omega) (by omega) (fun H locs ls hl hS hI => cont H locs ls h6 hl hS hI)
    · refine lv_tableIn (tgt := 1048) hx hb d_L_33 (by decide) (by decide) rfl (by decide) ?_
      exact law_c22 l hL C1 D dT hK vv rg li mm k9 h6 H locs _ _ ls hl hS hI (by omega) (by omega) (fun H locs ls hl hS hI => cont H locs ls h6 hl hS hI)
    · refine lv_tableIn (tgt := 1071) hx hb d_L_33 (by decide) (by decide) rfl (by decide) ?_
      exact law_c23 l hL C1 D dT hK vv rg li mm k9 h6 H locs _ _ ls hl hS hI (by omega) (by omega) (fun H locs ls hl hS hI => cont H locs ls h6 hl hS hI)
    · refine lv_tableIn (tgt := 1104) hx hb d_L_33 (by decide) (by decide) rfl (by decide) ?_
      exact law_c24 l hL C1 D dT hK vv rg li mm k9 h6 H locs _ _ ls hl hS hI (by omega) (by omega) (fun H locs ls hl hS hI => cont H locs ls h6 hl hS hI)
    · refine lv_tableIn (tgt := 1137) hx hb d_L_33 (by decide) (by decide) rfl (by decide) ?_
      exact law_c25 l hL C1 D dT hK vv rg li mm k9 h6 H locs _ _ ls hl hS hI (by omega) (by omega) (fun H locs ls hl hS hI => cont H locs ls h6 hl hS hI)
    · refine lv_tableOut (tgt := 1170) hx hb d_L_33 (by decide) (by decide) ?_
      refine W.widen (k := 33 + 5 * k9 + 5) (n := 36365 + 3100 * k9 + 3100) (by omega) (by omega) ?_
      exact cont H locs ls h6 hl hS hI
    · refine lv_tableOut (tgt := 1170) hx hb d_L_33 (by decide) (by decide) ?_
      refine W.widen (k := 33 + 5 * k9 + 5) (n := 36365 + 3100 * k9 + 3100) (by omega) (by omega) ?_
      exact cont H locs ls h6 hl hS hI
    · refine lv_tableOut (tgt := 1170) hx hb d_L_33 (by decide) (by decide) ?_
      refine W.widen (k := 33 + 5 * k9 + 5) (n := 36365 + 3100 * k9 + 3100) (by omega) (by omega) ?_
      exact cont H locs ls h6 hl hS hI
    · refine lv_tableOut (tgt := 1170) hx hb d_L_33 (by decide) (by decide) ?_
      refine W.widen (k := 33 + 5 * k9 + 5) (n := 36365 + 3100 * k9 + 3100) (by omega) (by omega) ?_
      exact cont H locs ls h6 hl hS hI
    · refine lv_tableOut (tgt := 1170) hx hb d_L_33 (by decide) (by decide) ?_
      refine W.widen (k := 33 + 5 * k9 + 5) (n := 36365 + 3100 * k9 + 3100) (by omega) (by omega) ?_
      exact cont H locs ls h6 hl hS hI
    · refine lv_tableOut (tgt := 1170) hx hb d_L_33 (by decide) (by decide) ?_
      refine W.widen (k := 33 + 5 * k9 + 5) (n := 36365 + 3100 * k9 + 3100) (by omega) (by omega) ?_
      exact cont H locs ls h6 hl hS hI
