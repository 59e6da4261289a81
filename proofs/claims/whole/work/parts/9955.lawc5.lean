theorem d_L_992 : decode code 992 = .ok (.aload_n 1, 1) := by decide +kernel
theorem d_L_993 : decode code 993 = .ok (.aload_n 0, 1) := by decide +kernel
theorem d_L_994 : decode code 994 = .ok (.iload_n 3, 1) := by decide +kernel
theorem d_L_995 : decode code 995 = .ok (.iconst 1, 1) := by decide +kernel
theorem d_L_996 : decode code 996 = .ok (.iadd, 1) := by decide +kernel
theorem d_L_997 : decode code 997 = .ok (.iaload, 1) := by decide +kernel
theorem d_L_998 : decode code 998 = .ok (.invokevirtual 103, 3) := by decide +kernel
theorem d_L_1001 : decode code 1001 = .ok (.aload_n 2, 1) := by decide +kernel
theorem d_L_1002 : decode code 1002 = .ok (.aload_n 0, 1) := by decide +kernel
theorem d_L_1003 : decode code 1003 = .ok (.iload_n 3, 1) := by decide +kernel
theorem d_L_1004 : decode code 1004 = .ok (.iconst 1, 1) := by decide +kernel
theorem d_L_1005 : decode code 1005 = .ok (.iadd, 1) := by decide +kernel
theorem d_L_1006 : decode code 1006 = .ok (.iaload, 1) := by decide +kernel
theorem d_L_1007 : decode code 1007 = .ok (.invokevirtual 106, 3) := by decide +kernel
theorem d_L_1010 : decode code 1010 = .ok (.if_icmp .eq 160, 3) := by decide +kernel
theorem d_L_1013 : decode code 1013 = .ok (.iconst 0, 1) := by decide +kernel
theorem d_L_1014 : decode code 1014 = .ok (.ireturn, 1) := by decide +kernel
set_option maxHeartbeats 4000000 in
set_option maxRecDepth 100000 in
theorem law_c20 (l : Launch) {p : Program} {e : Env} {s : State} {m : MethodId} {below : List Frame} {meth : Method} {c : Code} {b L : Nat} {xs : Nat → Int32} (hL : L ≤ 3072) (C0 : lw_At p s m meth c b L xs) (D : va_G) (dT : Nat → ClassId) (hK : z_K D dT s) (vv rg li : Nat) (mm : Nat → Nat) (k9 : Nat) (hk9 : 6 * k9 + 6 ≤ L) (H : Heap) (locs : List Loc) (cells slots : Nat) (ls : Array Slot) (hl : lv_has ls 4 [(3, .int (nI (6 * k9))), (2, .ref (mm 0)), (1, .ref vv), (0, .ref b)]) (hS : va_S (fun q => s.heap.size ≤ q) s.heap H locs) (hI : lI D dT s.heap.size vv rg li mm H) (hc : cells + 5 ≤ 600000) (hs : slots + 3100 ≤ 7302250) (kk : ∀ (H : Heap) (locs : List Loc) (ls : Array Slot), lv_has ls 4 [(3, .int (nI (6 * k9))), (2, .ref (mm 0)), (1, .ref vv), (0, .ref b)] → va_S (fun q => s.heap.size ≤ q) s.heap H locs → lI D dT s.heap.size vv rg li mm H → W p l e room_1 s m #[Value.ref b] below meth c H locs (cells + 5) (slots + 3100) (lw_Z below #[Value.ref b] s) (F0 m 1170 ls [])) : W p l e room_1 s m #[Value.ref b] below meth c H locs (cells) (slots) (lw_Z below #[Value.ref b] s) (F0 m 992 ls []) := by
  obtain ⟨hx, hb, hr, hml, hown, hts, hX, hbl, hlocks, hgv⟩ := C0
  have hown : s.vm.findClass "ValueTreesLaw" = some m.cls := hown
  have ht : ∀ w ∈ gt, w.before #[Value.ref b] s = true := fun w h => hts w (gt_in h)
  have hbA : ¬ (fun q => s.heap.size ≤ q) b := Nat.not_le.mpr hbl
  obtain ⟨B, ed, tb, tc, RV, hC, hm, hmm, hrg0, hli0, hed0⟩ := hI
  have hV := mI_vOK hm
  refine lv_aload_n hx hb d_L_992 rfl (lv_at hl 2 rfl) ?_
  refine lv_aload_n hx hb d_L_993 rfl (lv_at hl 3 rfl) ?_
  refine lv_iload_n hx hb d_L_994 rfl (lv_at hl 0 rfl) ?_
  refine lv_iconst (v := 1) hx hb d_L_995 (by decide) ?_
  refine lv_iadd hx hb d_L_996 ?_
  rw [show (((nI (6 * k9)) + 1) : Int32) = nI ((6 * k9) + 1) from nI_add (6 * k9) 1]
  refine z_sld hx hb hX hbl hbA hS ((6 * k9) + 1) rfl (by omega) hL d_L_997 ?_
  have hSp := hS
  have hlt9 := fun (k : Nat) (hk : k < 10) => mI_lt hm hk
  refine z_callR (va_runV (C := "ValueTrees") (As := [.int (xs ((6 * k9) + 1))]) (rest := []) ⟨hx, hb, hml, hown, hts⟩ (p_V_many l D dT _ B vv rg li ed tb tc RV hC hV (xs ((6 * k9) + 1))) ⟨callB_of 1 hts (gI gd_lw gd_l q512) rfl rfl rfl (ht _ q1) (ht _ q509) hd_V_many ⟨Nat.le_of_ble_eq_true rfl, Nat.le_of_ble_eq_true rfl⟩, ht _ q510, ht _ q511⟩ (z_preV hK (va_recv hK.1 (z_1 hC.2.1) (ci := 0) (q0 := 0) rfl rfl)) rfl rfl hl.1 rfl (lv_room (Nat.le_of_ble_eq_true rfl)) d_L_998 ⟨by show cells + 0 ≤ 600000; omega, by show slots + 0 ≤ 7302250; omega⟩) (fun v2 hv1 => ?_)
  subst hv1
  refine lv_aload_n hx hb d_L_1001 rfl (lv_at hl 1 rfl) ?_
  refine lv_aload_n hx hb d_L_1002 rfl (lv_at hl 3 rfl) ?_
  refine lv_iload_n hx hb d_L_1003 rfl (lv_at hl 0 rfl) ?_
  refine lv_iconst (v := 1) hx hb d_L_1004 (by decide) ?_
  refine lv_iadd hx hb d_L_1005 ?_
  rw [show (((nI (6 * k9)) + 1) : Int32) = nI ((6 * k9) + 1) from nI_add (6 * k9) 1]
  refine z_sld hx hb hX hbl hbA hS ((6 * k9) + 1) rfl (by omega) hL d_L_1006 ?_
  obtain ⟨fs9, hmo⟩ := mI_obj hm
  refine z_callR (va_runV (C := "ValueTreesModel") (As := [.int (xs ((6 * k9) + 1))]) (rest := [.int (a_many RV (xs ((6 * k9) + 1)))]) ⟨hx, hb, hml, hown, hts⟩ (p_M_many l D dT _ mm tb tc RV hm (xs ((6 * k9) + 1))) ⟨callB_of 1 hts (gI gd_lw gd_l q822) rfl rfl rfl (ht _ q10) (ht _ q819) hd_M_many ⟨Nat.le_of_ble_eq_true rfl, Nat.le_of_ble_eq_true rfl⟩, ht _ q820, ht _ q821⟩ (z_preV hK (z_recv hK hmo rfl)) rfl rfl hl.1 rfl (lv_room (Nat.le_of_ble_eq_true rfl)) d_L_1007 ⟨by show cells + 0 ≤ 600000; omega, by show slots + 0 ≤ 7302250; omega⟩) (fun v4 hv3 => ?_)
  subst hv3
  refine lv_icmp_eq (tgt := 1170) hx hb d_L_1010 (by decide) (fun _ => ?_) (fun h9 => absurd rfl h9)
  refine W.widen (k := cells + 5) (n := slots + 3100) (by omega) (by omega) ?_
  exact kk _ _ ls hl hS ⟨B, ed, _, _, _, hC, hm, hmm, hrg0, hli0, hed0⟩
theorem d_L_1015 : decode code 1015 = .ok (.aload_n 1, 1) := by decide +kernel
theorem d_L_1016 : decode code 1016 = .ok (.aload_n 0, 1) := by decide +kernel
theorem d_L_1017 : decode code 1017 = .ok (.iload_n 3, 1) := by decide +kernel
theorem d_L_1018 : decode code 1018 = .ok (.iconst 1, 1) := by decide +kernel
theorem d_L_1019 : decode code 1019 = .ok (.iadd, 1) := by decide +kernel
theorem d_L_1020 : decode code 1020 = .ok (.iaload, 1) := by decide +kernel
theorem d_L_1021 : decode code 1021 = .ok (.aload_n 0, 1) := by decide +kernel
theorem d_L_1022 : decode code 1022 = .ok (.iload_n 3, 1) := by decide +kernel
theorem d_L_1023 : decode code 1023 = .ok (.iconst 2, 1) := by decide +kernel
theorem d_L_1024 : decode code 1024 = .ok (.iadd, 1) := by decide +kernel
theorem d_L_1025 : decode code 1025 = .ok (.iaload, 1) := by decide +kernel
theorem d_L_1026 : decode code 1026 = .ok (.invokevirtual 107, 3) := by decide +kernel
theorem d_L_1029 : decode code 1029 = .ok (.aload_n 2, 1) := by decide +kernel
theorem d_L_1030 : decode code 1030 = .ok (.aload_n 0, 1) := by decide +kernel
theorem d_L_1031 : decode code 1031 = .ok (.iload_n 3, 1) := by decide +kernel
theorem d_L_1032 : decode code 1032 = .ok (.iconst 1, 1) := by decide +kernel
theorem d_L_1033 : decode code 1033 = .ok (.iadd, 1) := by decide +kernel
theorem d_L_1034 : decode code 1034 = .ok (.iaload, 1) := by decide +kernel
theorem d_L_1035 : decode code 1035 = .ok (.aload_n 0, 1) := by decide +kernel
theorem d_L_1036 : decode code 1036 = .ok (.iload_n 3, 1) := by decide +kernel
theorem d_L_1037 : decode code 1037 = .ok (.iconst 2, 1) := by decide +kernel
theorem d_L_1038 : decode code 1038 = .ok (.iadd, 1) := by decide +kernel
theorem d_L_1039 : decode code 1039 = .ok (.iaload, 1) := by decide +kernel
theorem d_L_1040 : decode code 1040 = .ok (.invokevirtual 110, 3) := by decide +kernel
theorem d_L_1043 : decode code 1043 = .ok (.if_icmp .eq 127, 3) := by decide +kernel
theorem d_L_1046 : decode code 1046 = .ok (.iconst 0, 1) := by decide +kernel
theorem d_L_1047 : decode code 1047 = .ok (.ireturn, 1) := by decide +kernel
set_option maxHeartbeats 4000000 in
set_option maxRecDepth 100000 in
theorem law_c21 (l : Launch) {p : Program} {e : Env} {s : State} {m : MethodId} {below : List Frame} {meth : Method} {c : Code} {b L : Nat} {xs : Nat → Int32} (hL : L ≤ 3072) (C0 : lw_At p s m meth c b L xs) (D : va_G) (dT : Nat → ClassId) (hK : z_K D dT s) (vv rg li : Nat) (mm : Nat → Nat) (k9 : Nat) (hk9 : 6 * k9 + 6 ≤ L) (H : Heap) (locs : List Loc) (cells slots : Nat) (ls : Array Slot) (hl : lv_has ls 4 [(3, .int (nI (6 * k9))), (2, .ref (mm 0)), (1, .ref vv), (0, .ref b)]) (hS : va_S (fun q => s.heap.size ≤ q) s.heap H locs) (hI : lI D dT s.heap.size vv rg li mm H) (hc : cells + 5 ≤ 600000) (hs : slots + 3100 ≤ 7302250) (kk : ∀ (H : Heap) (locs : List Loc) (ls : Array Slot), lv_has ls 4 [(3, .int (nI (6 * k9))), (2, .ref (mm 0)), (1, .ref vv), (0, .ref b)] → va_S (fun q => s.heap.size ≤ q) s.heap H locs → lI D dT s.heap.size vv rg li mm H → W p l e room_1 s m #[Value.ref b] below meth c H locs (cells + 5) (slots + 3100) (lw_Z below #[Value.ref b] s) (F0 m 1170 ls [])) : W p l e room_1 s m #[Value.ref b] below meth c H locs (cells) (slots) (lw_Z below #[Value.ref b] s) (F0 m 1015 ls []) := by
  obtain ⟨hx, hb, hr, hml, hown, hts, hX, hbl, hlocks, hgv⟩ := C0
  have hown : s.vm.findClass "ValueTreesLaw" = some m.cls := hown
  have ht : ∀ w ∈ gt, w.before #[Value.ref b] s = true := fun w h => hts w (gt_in h)
  have hbA : ¬ (fun q => s.heap.size ≤ q) b := Nat.not_le.mpr hbl
  obtain ⟨B, ed, tb, tc, RV, hC, hm, hmm, hrg0, hli0, hed0⟩ := hI
  have hV := mI_vOK hm
  refine lv_aload_n hx hb d_L_1015 rfl (lv_at hl 2 rfl) ?_
  refine lv_aload_n hx hb d_L_1016 rfl (lv_at hl 3 rfl) ?_
  refine lv_iload_n hx hb d_L_1017 rfl (lv_at hl 0 rfl) ?_
  refine lv_iconst (v := 1) hx hb d_L_1018 (by decide) ?_
  refine lv_iadd hx hb d_L_1019 ?_
  rw [show (((nI (6 * k9)) + 1) : Int32) = nI ((6 * k9) + 1) from nI_add (6 * k9) 1]
  refine z_sld hx hb hX hbl hbA hS ((6 * k9) + 1) rfl (by omega) hL d_L_1020 ?_
  refine lv_aload_n hx hb d_L_1021 rfl (lv_at hl 3 rfl) ?_
  refine lv_iload_n hx hb d_L_1022 rfl (lv_at hl 0 rfl) ?_
  refine lv_iconst (v := 2) hx hb d_L_1023 (by decide) ?_
  refine lv_iadd hx hb d_L_1024 ?_
  rw [show (((nI (6 * k9)) + 2) : Int32) = nI ((6 * k9) + 2) from nI_add (6 * k9) 2]
  refine z_sld hx hb hX hbl hbA hS ((6 * k9) + 2) rfl (by omega) hL d_L_1025 ?_
  have hSp := hS
  have hlt9 := fun (k : Nat) (hk : k < 10) => mI_lt hm hk
  refine z_callR (va_runV (C := "ValueTrees") (As := [.int (xs ((6 * k9) + 1)), .int (xs ((6 * k9) + 2))]) (rest := []) ⟨hx, hb, hml, hown, hts⟩ (p_V_digit l D dT _ B vv rg li ed tb tc RV hC hV (xs ((6 * k9) + 1)) (xs ((6 * k9) + 2))) ⟨callB_of 2 hts (gI gd_lw gd_l q516) rfl rfl rfl (ht _ q1) (ht _ q513) hd_V_digit ⟨Nat.le_of_ble_eq_true rfl, Nat.le_of_ble_eq_true rfl⟩, ht _ q514, ht _ q515⟩ (z_preV hK (va_recv hK.1 (z_1 hC.2.1) (ci := 0) (q0 := 0) rfl rfl)) rfl rfl hl.1 rfl (lv_room (Nat.le_of_ble_eq_true rfl)) d_L_1026 ⟨by show cells + 0 ≤ 600000; omega, by show slots + 0 ≤ 7302250; omega⟩) (fun v2 hv1 => ?_)
  subst hv1
  refine lv_aload_n hx hb d_L_1029 rfl (lv_at hl 1 rfl) ?_
  refine lv_aload_n hx hb d_L_1030 rfl (lv_at hl 3 rfl) ?_
  refine lv_iload_n hx hb d_L_1031 rfl (lv_at hl 0 rfl) ?_
  refine lv_iconst (v := 1) hx hb d_L_1032 (by decide) ?_
  refine lv_iadd hx hb d_L_1033 ?_
  rw [show (((nI (6 * k9)) + 1) : Int32) = nI ((6 * k9) + 1) from nI_add (6 * k9) 1]
  refine z_sld hx hb hX hbl hbA hS ((6 * k9) + 1) rfl (by omega) hL d_L_1034 ?_
  refine lv_aload_n hx hb d_L_1035 rfl (lv_at hl 3 rfl) ?_
  refine lv_iload_n hx hb d_L_1036 rfl (lv_at hl 0 rfl) ?_
  refine lv_iconst (v := 2) hx hb d_L_1037 (by decide) ?_
  refine lv_iadd hx hb d_L_1038 ?_
  rw [show (((nI (6 * k9)) + 2) : Int32) = nI ((6 * k9) + 2) from nI_add (6 * k9) 2]
  refine z_sld hx hb hX hbl hbA hS ((6 * k9) + 2) rfl (by omega) hL d_L_1039 ?_
  obtain ⟨fs9, hmo⟩ := mI_obj hm
  refine z_callQ (va_runV (C := "ValueTreesModel") (As := [.int (xs ((6 * k9) + 1)), .int (xs ((6 * k9) + 2))]) (rest := [.int (a_digit RV (xs ((6 * k9) + 1)) (xs ((6 * k9) + 2)))]) ⟨hx, hb, hml, hown, hts⟩ (p_M_digit l D dT _ mm tb tc RV hm (xs ((6 * k9) + 1)) (xs ((6 * k9) + 2))) ⟨callB_of 2 hts (gI gd_lw gd_l q826) rfl rfl rfl (ht _ q10) (ht _ q823) hd_M_digit ⟨Nat.le_of_ble_eq_true rfl, Nat.le_of_ble_eq_true rfl⟩, ht _ q824, ht _ q825⟩ (z_preV hK (z_recv hK hmo rfl)) rfl rfl hl.1 rfl (lv_room (Nat.le_of_ble_eq_true rfl)) d_L_1040 ⟨by show cells + 0 ≤ 600000; omega, by show slots + 0 ≤ 7302250; omega⟩) hS (fun q9 h9 => by obtain ⟨k, hk, e9⟩ := h9; rw [e9]; exact (hmm k hk).2.2.2.2) (fun v4 H locs hv3 hz5 hf6 hS => ?_)
  obtain ⟨rfl, hm⟩ := hv3
  have hC := hC.keepM hz5 hf6 (fun k hk => (hmm k hk).1) (fun k hk => (hmm k hk).2.1) (fun k hk => (hmm k hk).2.2.1) (fun k hk => (hmm k hk).2.2.2.1)
  refine W.eq (g2 := F0 m 1043 ls [.int (a_digit RV (xs ((6 * k9) + 1)) (xs ((6 * k9) + 2))), .int (a_digit RV (xs ((6 * k9) + 1)) (xs ((6 * k9) + 2)))]) rfl ?_
  refine lv_icmp_eq (tgt := 1170) hx hb d_L_1043 (by decide) (fun _ => ?_) (fun h9 => absurd rfl h9)
  refine W.widen (k := cells + 5) (n := slots + 3100) (by omega) (by omega) ?_
  exact kk _ _ ls hl hS ⟨B, ed, _, _, _, hC, hm, hmm, hrg0, hli0, hed0⟩
theorem d_L_1048 : decode code 1048 = .ok (.aload_n 1, 1) := by decide +kernel
theorem d_L_1049 : decode code 1049 = .ok (.aload_n 0, 1) := by decide +kernel
theorem d_L_1050 : decode code 1050 = .ok (.iload_n 3, 1) := by decide +kernel
theorem d_L_1051 : decode code 1051 = .ok (.iconst 1, 1) := by decide +kernel
theorem d_L_1052 : decode code 1052 = .ok (.iadd, 1) := by decide +kernel
theorem d_L_1053 : decode code 1053 = .ok (.iaload, 1) := by decide +kernel
theorem d_L_1054 : decode code 1054 = .ok (.invokevirtual 111, 3) := by decide +kernel
theorem d_L_1057 : decode code 1057 = .ok (.aload_n 2, 1) := by decide +kernel
theorem d_L_1058 : decode code 1058 = .ok (.aload_n 0, 1) := by decide +kernel
theorem d_L_1059 : decode code 1059 = .ok (.iload_n 3, 1) := by decide +kernel
theorem d_L_1060 : decode code 1060 = .ok (.iconst 1, 1) := by decide +kernel
theorem d_L_1061 : decode code 1061 = .ok (.iadd, 1) := by decide +kernel
theorem d_L_1062 : decode code 1062 = .ok (.iaload, 1) := by decide +kernel
theorem d_L_1063 : decode code 1063 = .ok (.invokevirtual 114, 3) := by decide +kernel
theorem d_L_1066 : decode code 1066 = .ok (.if_icmp .eq 104, 3) := by decide +kernel
theorem d_L_1069 : decode code 1069 = .ok (.iconst 0, 1) := by decide +kernel
theorem d_L_1070 : decode code 1070 = .ok (.ireturn, 1) := by decide +kernel
set_option maxHeartbeats 4000000 in
set_option maxRecDepth 100000 in
theorem law_c22 (l : Launch) {p : Program} {e : Env} {s : State} {m : MethodId} {below : List Frame} {meth : Method} {c : Code} {b L : Nat} {xs : Nat → Int32} (hL : L ≤ 3072) (C0 : lw_At p s m meth c b L xs) (D : va_G) (dT : Nat → ClassId) (hK : z_K D dT s) (vv rg li : Nat) (mm : Nat → Nat) (k9 : Nat) (hk9 : 6 * k9 + 6 ≤ L) (H : Heap) (locs : List Loc) (cells slots : Nat) (ls : Array Slot) (hl : lv_has ls 4 [(3, .int (nI (6 * k9))), (2, .ref (mm 0)), (1, .ref vv), (0, .ref b)]) (hS : va_S (fun q => s.heap.size ≤ q) s.heap H locs) (hI : lI D dT s.heap.size vv rg li mm H) (hc : cells + 5 ≤ 600000) (hs : slots + 3100 ≤ 7302250) (kk : ∀ (H : Heap) (locs : List Loc) (ls : Array Slot), lv_has ls 4 [(3, .int (nI (6 * k9))), (2, .ref (mm 0)), (1, .ref vv), (0, .ref b)] → va_S (fun q => s.heap.size ≤ q) s.heap H locs → lI D dT s.heap.size vv rg li mm H → W p l e room_1 s m #[Value.ref b] below meth c H locs (cells + 5) (slots + 3100) (lw_Z below #[Value.ref b] s) (F0 m 1170 ls [])) : W p l e room_1 s m #[Value.ref b] below meth c H locs (cells) (slots) (lw_Z below #[Value.ref b] s) (F0 m 1048 ls []) := by
  obtain ⟨hx, hb, hr, hml, hown, hts, hX, hbl, hlocks, hgv⟩ := C0
  have hown : s.vm.findClass "ValueTreesLaw" = some m.cls := hown
  have ht : ∀ w ∈ gt, w.before #[Value.ref b] s = true := fun w h => hts w (gt_in h)
  have hbA : ¬ (fun q => s.heap.size ≤ q) b := Nat.not_le.mpr hbl
  obtain ⟨B, ed, tb, tc, RV, hC, hm, hmm, hrg0, hli0, hed0⟩ := hI
  have hV := mI_vOK hm
  refine lv_aload_n hx hb d_L_1048 rfl (lv_at hl 2 rfl) ?_
  refine lv_aload_n hx hb d_L_1049 rfl (lv_at hl 3 rfl) ?_
  refine lv_iload_n hx hb d_L_1050 rfl (lv_at hl 0 rfl) ?_
  refine lv_iconst (v := 1) hx hb d_L_1051 (by decide) ?_
  refine lv_iadd hx hb d_L_1052 ?_
  rw [show (((nI (6 * k9)) + 1) : Int32) = nI ((6 * k9) + 1) from nI_add (6 * k9) 1]
  refine z_sld hx hb hX hbl hbA hS ((6 * k9) + 1) rfl (by omega) hL d_L_1053 ?_
  have hSp := hS
  have hlt9 := fun (k : Nat) (hk : k < 10) => mI_lt hm hk
  refine z_callR (va_runV (C := "ValueTrees") (As := [.int (xs ((6 * k9) + 1))]) (rest := []) ⟨hx, hb, hml, hown, hts⟩ (p_V_isBelow l D dT _ B vv rg li ed tb tc RV hC hV (xs ((6 * k9) + 1))) ⟨callB_of 1 hts (gI gd_lw gd_l q520) rfl rfl rfl (ht _ q1) (ht _ q517) hd_V_isBelow ⟨Nat.le_of_ble_eq_true rfl, Nat.le_of_ble_eq_true rfl⟩, ht _ q518, ht _ q519⟩ (z_preV hK (va_recv hK.1 (z_1 hC.2.1) (ci := 0) (q0 := 0) rfl rfl)) rfl rfl hl.1 rfl (lv_room (Nat.le_of_ble_eq_true rfl)) d_L_1054 ⟨by show cells + 0 ≤ 600000; omega, by show slots + 0 ≤ 7302250; omega⟩) (fun v2 hv1 => ?_)
  subst hv1
  refine lv_aload_n hx hb d_L_1057 rfl (lv_at hl 1 rfl) ?_
  refine lv_aload_n hx hb d_L_1058 rfl (lv_at hl 3 rfl) ?_
  refine lv_iload_n hx hb d_L_1059 rfl (lv_at hl 0 rfl) ?_
  refine lv_iconst (v := 1) hx hb d_L_1060 (by decide) ?_
  refine lv_iadd hx hb d_L_1061 ?_
  rw [show (((nI (6 * k9)) + 1) : Int32) = nI ((6 * k9) + 1) from nI_add (6 * k9) 1]
  refine z_sld hx hb hX hbl hbA hS ((6 * k9) + 1) rfl (by omega) hL d_L_1062 ?_
  obtain ⟨fs9, hmo⟩ := mI_obj hm
  refine z_callQ (va_runV (C := "ValueTreesModel") (As := [.int (xs ((6 * k9) + 1))]) (rest := [.int (a_below RV (xs ((6 * k9) + 1)))]) ⟨hx, hb, hml, hown, hts⟩ (p_M_isBelow l D dT _ mm tb tc RV hm (xs ((6 * k9) + 1))) ⟨callB_of 1 hts (gI gd_lw gd_l q830) rfl rfl rfl (ht _ q10) (ht _ q827) hd_M_isBelow ⟨Nat.le_of_ble_eq_true rfl, Nat.le_of_ble_eq_true rfl⟩, ht _ q828, ht _ q829⟩ (z_preV hK (z_recv hK hmo rfl)) rfl rfl hl.1 rfl (lv_room (Nat.le_of_ble_eq_true rfl)) d_L_1063 ⟨by show cells + 0 ≤ 600000; omega, by show slots + 0 ≤ 7302250; omega⟩) hS (fun q9 h9 => by obtain ⟨k, hk, e9⟩ := h9; rw [e9]; exact (hmm k hk).2.2.2.2) (fun v4 H locs hv3 hz5 hf6 hS => ?_)
  obtain ⟨rfl, hm⟩ := hv3
  have hC := hC.keepM hz5 hf6 (fun k hk => (hmm k hk).1) (fun k hk => (hmm k hk).2.1) (fun k hk => (hmm k hk).2.2.1) (fun k hk => (hmm k hk).2.2.2.1)
  refine W.eq (g2 := F0 m 1066 ls [.int (a_below RV (xs ((6 * k9) + 1))), .int (a_below RV (xs ((6 * k9) + 1)))]) rfl ?_
  refine lv_icmp_eq (tgt := 1170) hx hb d_L_1066 (by decide) (fun _ => ?_) (fun h9 => absurd rfl h9)
  refine W.widen (k := cells + 5) (n := slots + 3100) (by omega) (by omega) ?_
  exact kk _ _ ls hl hS ⟨B, ed, _, _, _, hC, hm, hmm, hrg0, hli0, hed0⟩
theorem d_L_1071 : decode code 1071 = .ok (.aload_n 1, 1) := by decide +kernel
theorem d_L_1072 : decode code 1072 = .ok (.aload_n 0, 1) := by decide +kernel
theorem d_L_1073 : decode code 1073 = .ok (.iload_n 3, 1) := by decide +kernel
theorem d_L_1074 : decode code 1074 = .ok (.iconst 1, 1) := by decide +kernel
theorem d_L_1075 : decode code 1075 = .ok (.iadd, 1) := by decide +kernel
theorem d_L_1076 : decode code 1076 = .ok (.iaload, 1) := by decide +kernel
theorem d_L_1077 : decode code 1077 = .ok (.aload_n 0, 1) := by decide +kernel
theorem d_L_1078 : decode code 1078 = .ok (.iload_n 3, 1) := by decide +kernel
theorem d_L_1079 : decode code 1079 = .ok (.iconst 2, 1) := by decide +kernel
theorem d_L_1080 : decode code 1080 = .ok (.iadd, 1) := by decide +kernel
theorem d_L_1081 : decode code 1081 = .ok (.iaload, 1) := by decide +kernel
theorem d_L_1082 : decode code 1082 = .ok (.invokevirtual 115, 3) := by decide +kernel
theorem d_L_1085 : decode code 1085 = .ok (.aload_n 2, 1) := by decide +kernel
theorem d_L_1086 : decode code 1086 = .ok (.aload_n 0, 1) := by decide +kernel
theorem d_L_1087 : decode code 1087 = .ok (.iload_n 3, 1) := by decide +kernel
theorem d_L_1088 : decode code 1088 = .ok (.iconst 1, 1) := by decide +kernel
theorem d_L_1089 : decode code 1089 = .ok (.iadd, 1) := by decide +kernel
theorem d_L_1090 : decode code 1090 = .ok (.iaload, 1) := by decide +kernel
theorem d_L_1091 : decode code 1091 = .ok (.aload_n 0, 1) := by decide +kernel
theorem d_L_1092 : decode code 1092 = .ok (.iload_n 3, 1) := by decide +kernel
theorem d_L_1093 : decode code 1093 = .ok (.iconst 2, 1) := by decide +kernel
theorem d_L_1094 : decode code 1094 = .ok (.iadd, 1) := by decide +kernel
theorem d_L_1095 : decode code 1095 = .ok (.iaload, 1) := by decide +kernel
theorem d_L_1096 : decode code 1096 = .ok (.invokevirtual 118, 3) := by decide +kernel
theorem d_L_1099 : decode code 1099 = .ok (.if_icmp .eq 71, 3) := by decide +kernel
theorem d_L_1102 : decode code 1102 = .ok (.iconst 0, 1) := by decide +kernel
theorem d_L_1103 : decode code 1103 = .ok (.ireturn, 1) := by decide +kernel
set_option maxHeartbeats 4000000 in
set_option maxRecDepth 100000 in
theorem law_c23 (l : Launch) {p : Program} {e : Env} {s : State} {m : MethodId} {below : List Frame} {meth : Method} {c : Code} {b L : Nat} {xs : Nat → Int32} (hL : L ≤ 3072) (C0 : lw_At p s m meth c b L xs) (D : va_G) (dT : Nat → ClassId) (hK : z_K D dT s) (vv rg li : Nat) (mm : Nat → Nat) (k9 : Nat) (hk9 : 6 * k9 + 6 ≤ L) (H : Heap) (locs : List Loc) (cells slots : Nat) (ls : Array Slot) (hl : lv_has ls 4 [(3, .int (nI (6 * k9))), (2, .ref (mm 0)), (1, .ref vv), (0, .ref b)]) (hS : va_S (fun q => s.heap.size ≤ q) s.heap H locs) (hI : lI D dT s.heap.size vv rg li mm H) (hc : cells + 5 ≤ 600000) (hs : slots + 3100 ≤ 7302250) (kk : ∀ (H : Heap) (locs : List Loc) (ls : Array Slot), lv_has ls 4 [(3, .int (nI (6 * k9))), (2, .ref (mm 0)), (1, .ref vv), (0, .ref b)] → va_S (fun q => s.heap.size ≤ q) s.heap H locs → lI D dT s.heap.size vv rg li mm H → W p l e room_1 s m #[Value.ref b] below meth c H locs (cells + 5) (slots + 3100) (lw_Z below #[Value.ref b] s) (F0 m 1170 ls [])) : W p l e room_1 s m #[Value.ref b] below meth c H locs (cells) (slots) (lw_Z below #[Value.ref b] s) (F0 m 1071 ls []) := by
  obtain ⟨hx, hb, hr, hml, hown, hts, hX, hbl, hlocks, hgv⟩ := C0
  have hown : s.vm.findClass "ValueTreesLaw" = some m.cls := hown
  have ht : ∀ w ∈ gt, w.before #[Value.ref b] s = true := fun w h => hts w (gt_in h)
  have hbA : ¬ (fun q => s.heap.size ≤ q) b := Nat.not_le.mpr hbl
  obtain ⟨B, ed, tb, tc, RV, hC, hm, hmm, hrg0, hli0, hed0⟩ := hI
  have hV := mI_vOK hm
  refine lv_aload_n hx hb d_L_1071 rfl (lv_at hl 2 rfl) ?_
  refine lv_aload_n hx hb d_L_1072 rfl (lv_at hl 3 rfl) ?_
  refine lv_iload_n hx hb d_L_1073 rfl (lv_at hl 0 rfl) ?_
  refine lv_iconst (v := 1) hx hb d_L_1074 (by decide) ?_
  refine lv_iadd hx hb d_L_1075 ?_
  rw [show (((nI (6 * k9)) + 1) : Int32) = nI ((6 * k9) + 1) from nI_add (6 * k9) 1]
  refine z_sld hx hb hX hbl hbA hS ((6 * k9) + 1) rfl (by omega) hL d_L_1076 ?_
  refine lv_aload_n hx hb d_L_1077 rfl (lv_at hl 3 rfl) ?_
  refine lv_iload_n hx hb d_L_1078 rfl (lv_at hl 0 rfl) ?_
  refine lv_iconst (v := 2) hx hb d_L_1079 (by decide) ?_
  refine lv_iadd hx hb d_L_1080 ?_
  rw [show (((nI (6 * k9)) + 2) : Int32) = nI ((6 * k9) + 2) from nI_add (6 * k9) 2]
  refine z_sld hx hb hX hbl hbA hS ((6 * k9) + 2) rfl (by omega) hL d_L_1081 ?_
  have hSp := hS
  have hlt9 := fun (k : Nat) (hk : k < 10) => mI_lt hm hk
  refine z_callR (va_runV (C := "ValueTrees") (As := [.int (xs ((6 * k9) + 1)), .int (xs ((6 * k9) + 2))]) (rest := []) ⟨hx, hb, hml, hown, hts⟩ (p_V_byteAt l D dT _ B vv rg li ed tb tc RV hC hV (xs ((6 * k9) + 1)) (xs ((6 * k9) + 2))) ⟨callB_of 2 hts (gI gd_lw gd_l q524) rfl rfl rfl (ht _ q1) (ht _ q521) hd_V_byteAt ⟨Nat.le_of_ble_eq_true rfl, Nat.le_of_ble_eq_true rfl⟩, ht _ q522, ht _ q523⟩ (z_preV hK (va_recv hK.1 (z_1 hC.2.1) (ci := 0) (q0 := 0) rfl rfl)) rfl rfl hl.1 rfl (lv_room (Nat.le_of_ble_eq_true rfl)) d_L_1082 ⟨by show cells + 0 ≤ 600000; omega, by show slots + 0 ≤ 7302250; omega⟩) (fun v2 hv1 => ?_)
  subst hv1
  refine lv_aload_n hx hb d_L_1085 rfl (lv_at hl 1 rfl) ?_
  refine lv_aload_n hx hb d_L_1086 rfl (lv_at hl 3 rfl) ?_
  refine lv_iload_n hx hb d_L_1087 rfl (lv_at hl 0 rfl) ?_
  refine lv_iconst (v := 1) hx hb d_L_1088 (by decide) ?_
  refine lv_iadd hx hb d_L_1089 ?_
  rw [show (((nI (6 * k9)) + 1) : Int32) = nI ((6 * k9) + 1) from nI_add (6 * k9) 1]
  refine z_sld hx hb hX hbl hbA hS ((6 * k9) + 1) rfl (by omega) hL d_L_1090 ?_
  refine lv_aload_n hx hb d_L_1091 rfl (lv_at hl 3 rfl) ?_
  refine lv_iload_n hx hb d_L_1092 rfl (lv_at hl 0 rfl) ?_
  refine lv_iconst (v := 2) hx hb d_L_1093 (by decide) ?_
  refine lv_iadd hx hb d_L_1094 ?_
  rw [show (((nI (6 * k9)) + 2) : Int32) = nI ((6 * k9) + 2) from nI_add (6 * k9) 2]
  refine z_sld hx hb hX hbl hbA hS ((6 * k9) + 2) rfl (by omega) hL d_L_1095 ?_
  obtain ⟨fs9, hmo⟩ := mI_obj hm
  refine z_callQ (va_runV (C := "ValueTreesModel") (As := [.int (xs ((6 * k9) + 1)), .int (xs ((6 * k9) + 2))]) (rest := [.int (a_byteAt RV (xs ((6 * k9) + 1)) (xs ((6 * k9) + 2)))]) ⟨hx, hb, hml, hown, hts⟩ (p_M_byteAt l D dT _ mm tb tc RV hm (xs ((6 * k9) + 1)) (xs ((6 * k9) + 2))) ⟨callB_of 2 hts (gI gd_lw gd_l q834) rfl rfl rfl (ht _ q10) (ht _ q831) hd_M_byteAt ⟨Nat.le_of_ble_eq_true rfl, Nat.le_of_ble_eq_true rfl⟩, ht _ q832, ht _ q833⟩ (z_preV hK (z_recv hK hmo rfl)) rfl rfl hl.1 rfl (lv_room (Nat.le_of_ble_eq_true rfl)) d_L_1096 ⟨by show cells + 0 ≤ 600000; omega, by show slots + 0 ≤ 7302250; omega⟩) hS (fun q9 h9 => by obtain ⟨k, hk, e9⟩ := h9; rw [e9]; exact (hmm k hk).2.2.2.2) (fun v4 H locs hv3 hz5 hf6 hS => ?_)
  obtain ⟨rfl, hm⟩ := hv3
  have hC := hC.keepM hz5 hf6 (fun k hk => (hmm k hk).1) (fun k hk => (hmm k hk).2.1) (fun k hk => (hmm k hk).2.2.1) (fun k hk => (hmm k hk).2.2.2.1)
  refine W.eq (g2 := F0 m 1099 ls [.int (a_byteAt RV (xs ((6 * k9) + 1)) (xs ((6 * k9) + 2))), .int (a_byteAt RV (xs ((6 * k9) + 1)) (xs ((6 * k9) + 2)))]) rfl ?_
  refine lv_icmp_eq (tgt := 1170) hx hb d_L_1099 (by decide) (fun _ => ?_) (fun h9 => absurd rfl h9)
  refine W.widen (k := cells + 5) (n := slots + 3100) (by omega) (by omega) ?_
  exact kk _ _ ls hl hS ⟨B, ed, _, _, _, hC, hm, hmm, hrg0, hli0, hed0⟩
