theorem d_L_1104 : decode code 1104 = .ok (.aload_n 1, 1) := by decide +kernel
theorem d_L_1105 : decode code 1105 = .ok (.aload_n 0, 1) := by decide +kernel
theorem d_L_1106 : decode code 1106 = .ok (.iload_n 3, 1) := by decide +kernel
theorem d_L_1107 : decode code 1107 = .ok (.iconst 1, 1) := by decide +kernel
theorem d_L_1108 : decode code 1108 = .ok (.iadd, 1) := by decide +kernel
theorem d_L_1109 : decode code 1109 = .ok (.iaload, 1) := by decide +kernel
theorem d_L_1110 : decode code 1110 = .ok (.aload_n 0, 1) := by decide +kernel
theorem d_L_1111 : decode code 1111 = .ok (.iload_n 3, 1) := by decide +kernel
theorem d_L_1112 : decode code 1112 = .ok (.iconst 2, 1) := by decide +kernel
theorem d_L_1113 : decode code 1113 = .ok (.iadd, 1) := by decide +kernel
theorem d_L_1114 : decode code 1114 = .ok (.iaload, 1) := by decide +kernel
theorem d_L_1115 : decode code 1115 = .ok (.invokevirtual 119, 3) := by decide +kernel
theorem d_L_1118 : decode code 1118 = .ok (.aload_n 2, 1) := by decide +kernel
theorem d_L_1119 : decode code 1119 = .ok (.aload_n 0, 1) := by decide +kernel
theorem d_L_1120 : decode code 1120 = .ok (.iload_n 3, 1) := by decide +kernel
theorem d_L_1121 : decode code 1121 = .ok (.iconst 1, 1) := by decide +kernel
theorem d_L_1122 : decode code 1122 = .ok (.iadd, 1) := by decide +kernel
theorem d_L_1123 : decode code 1123 = .ok (.iaload, 1) := by decide +kernel
theorem d_L_1124 : decode code 1124 = .ok (.aload_n 0, 1) := by decide +kernel
theorem d_L_1125 : decode code 1125 = .ok (.iload_n 3, 1) := by decide +kernel
theorem d_L_1126 : decode code 1126 = .ok (.iconst 2, 1) := by decide +kernel
theorem d_L_1127 : decode code 1127 = .ok (.iadd, 1) := by decide +kernel
theorem d_L_1128 : decode code 1128 = .ok (.iaload, 1) := by decide +kernel
theorem d_L_1129 : decode code 1129 = .ok (.invokevirtual 122, 3) := by decide +kernel
theorem d_L_1132 : decode code 1132 = .ok (.if_icmp .eq 38, 3) := by decide +kernel
theorem d_L_1135 : decode code 1135 = .ok (.iconst 0, 1) := by decide +kernel
theorem d_L_1136 : decode code 1136 = .ok (.ireturn, 1) := by decide +kernel
set_option maxHeartbeats 4000000 in
set_option maxRecDepth 100000 in
theorem law_c24 (l : Launch) {p : Program} {e : Env} {s : State} {m : MethodId} {below : List Frame} {meth : Method} {c : Code} {b L : Nat} {xs : Nat → Int32} (hL : L ≤ 3072) (C0 : lw_At p s m meth c b L xs) (D : va_G) (dT : Nat → ClassId) (hK : z_K D dT s) (vv rg li : Nat) (mm : Nat → Nat) (k9 : Nat) (hk9 : 6 * k9 + 6 ≤ L) (H : Heap) (locs : List Loc) (cells slots : Nat) (ls : Array Slot) (hl : lv_has ls 4 [(3, .int (nI (6 * k9))), (2, .ref (mm 0)), (1, .ref vv), (0, .ref b)]) (hS : va_S (fun q => s.heap.size ≤ q) s.heap H locs) (hI : lI D dT s.heap.size vv rg li mm H) (hc : cells + 5 ≤ 600000) (hs : slots + 3100 ≤ 7302250) (kk : ∀ (H : Heap) (locs : List Loc) (ls : Array Slot), lv_has ls 4 [(3, .int (nI (6 * k9))), (2, .ref (mm 0)), (1, .ref vv), (0, .ref b)] → va_S (fun q => s.heap.size ≤ q) s.heap H locs → lI D dT s.heap.size vv rg li mm H → W p l e room_1 s m #[Value.ref b] below meth c H locs (cells + 5) (slots + 3100) (lw_Z below #[Value.ref b] s) (F0 m 1170 ls [])) : W p l e room_1 s m #[Value.ref b] below meth c H locs (cells) (slots) (lw_Z below #[Value.ref b] s) (F0 m 1104 ls []) := by
  obtain ⟨hx, hb, hr, hml, hown, hts, hX, hbl, hlocks, hgv⟩ := C0
  have hown : s.vm.findClass "ValueTreesLaw" = some m.cls := hown
  have ht : ∀ w ∈ gt, w.before #[Value.ref b] s = true := fun w h => hts w (gt_in h)
  have hbA : ¬ (fun q => s.heap.size ≤ q) b := Nat.not_le.mpr hbl
  obtain ⟨B, ed, tb, tc, RV, hC, hm, hmm, hrg0, hli0, hed0⟩ := hI
  have hV := mI_vOK hm
  refine lv_aload_n hx hb d_L_1104 rfl (lv_at hl 2 rfl) ?_
  refine lv_aload_n hx hb d_L_1105 rfl (lv_at hl 3 rfl) ?_
  refine lv_iload_n hx hb d_L_1106 rfl (lv_at hl 0 rfl) ?_
  refine lv_iconst (v := 1) hx hb d_L_1107 (by decide) ?_
  refine lv_iadd hx hb d_L_1108 ?_
  rw [show (((nI (6 * k9)) + 1) : Int32) = nI ((6 * k9) + 1) from nI_add (6 * k9) 1]
  refine z_sld hx hb hX hbl hbA hS ((6 * k9) + 1) rfl (by omega) hL d_L_1109 ?_
  refine lv_aload_n hx hb d_L_1110 rfl (lv_at hl 3 rfl) ?_
  refine lv_iload_n hx hb d_L_1111 rfl (lv_at hl 0 rfl) ?_
  refine lv_iconst (v := 2) hx hb d_L_1112 (by decide) ?_
  refine lv_iadd hx hb d_L_1113 ?_
  rw [show (((nI (6 * k9)) + 2) : Int32) = nI ((6 * k9) + 2) from nI_add (6 * k9) 2]
  refine z_sld hx hb hX hbl hbA hS ((6 * k9) + 2) rfl (by omega) hL d_L_1114 ?_
  have hSp := hS
  have hlt9 := fun (k : Nat) (hk : k < 10) => mI_lt hm hk
  refine z_callR (va_runV (C := "ValueTrees") (As := [.int (xs ((6 * k9) + 1)), .int (xs ((6 * k9) + 2))]) (rest := []) ⟨hx, hb, hml, hown, hts⟩ (p_V_has l D dT _ B vv rg li ed tb tc RV hC hV (xs ((6 * k9) + 1)) (xs ((6 * k9) + 2))) ⟨callB_of 2 hts (gI gd_lw gd_l q528) rfl rfl rfl (ht _ q1) (ht _ q525) hd_V_has ⟨Nat.le_of_ble_eq_true rfl, Nat.le_of_ble_eq_true rfl⟩, ht _ q526, ht _ q527⟩ (z_preV hK (va_recv hK.1 (z_1 hC.2.1) (ci := 0) (q0 := 0) rfl rfl)) rfl rfl hl.1 rfl (lv_room (Nat.le_of_ble_eq_true rfl)) d_L_1115 ⟨by show cells + 0 ≤ 600000; omega, by show slots + 0 ≤ 7302250; omega⟩) (fun v2 hv1 => ?_)
  subst hv1
  refine lv_aload_n hx hb d_L_1118 rfl (lv_at hl 1 rfl) ?_
  refine lv_aload_n hx hb d_L_1119 rfl (lv_at hl 3 rfl) ?_
  refine lv_iload_n hx hb d_L_1120 rfl (lv_at hl 0 rfl) ?_
  refine lv_iconst (v := 1) hx hb d_L_1121 (by decide) ?_
  refine lv_iadd hx hb d_L_1122 ?_
  rw [show (((nI (6 * k9)) + 1) : Int32) = nI ((6 * k9) + 1) from nI_add (6 * k9) 1]
  refine z_sld hx hb hX hbl hbA hS ((6 * k9) + 1) rfl (by omega) hL d_L_1123 ?_
  refine lv_aload_n hx hb d_L_1124 rfl (lv_at hl 3 rfl) ?_
  refine lv_iload_n hx hb d_L_1125 rfl (lv_at hl 0 rfl) ?_
  refine lv_iconst (v := 2) hx hb d_L_1126 (by decide) ?_
  refine lv_iadd hx hb d_L_1127 ?_
  rw [show (((nI (6 * k9)) + 2) : Int32) = nI ((6 * k9) + 2) from nI_add (6 * k9) 2]
  refine z_sld hx hb hX hbl hbA hS ((6 * k9) + 2) rfl (by omega) hL d_L_1128 ?_
  obtain ⟨fs9, hmo⟩ := mI_obj hm
  refine z_callQ (va_runV (C := "ValueTreesModel") (As := [.int (xs ((6 * k9) + 1)), .int (xs ((6 * k9) + 2))]) (rest := [.int (a_has tb RV (xs ((6 * k9) + 1)) (xs ((6 * k9) + 2)))]) ⟨hx, hb, hml, hown, hts⟩ (p_M_has l D dT _ mm tb tc RV hm (xs ((6 * k9) + 1)) (xs ((6 * k9) + 2))) ⟨callB_of 2 hts (gI gd_lw gd_l q838) rfl rfl rfl (ht _ q10) (ht _ q835) hd_M_has ⟨Nat.le_of_ble_eq_true rfl, Nat.le_of_ble_eq_true rfl⟩, ht _ q836, ht _ q837⟩ (z_preV hK (z_recv hK hmo rfl)) rfl rfl hl.1 rfl (lv_room (Nat.le_of_ble_eq_true rfl)) d_L_1129 ⟨by show cells + 0 ≤ 600000; omega, by show slots + 0 ≤ 7302250; omega⟩) hS (fun q9 h9 => by obtain ⟨k, hk, e9⟩ := h9; rw [e9]; exact (hmm k hk).2.2.2.2) (fun v4 H locs hv3 hz5 hf6 hS => ?_)
  obtain ⟨rfl, hm⟩ := hv3
  have hC := hC.keepM hz5 hf6 (fun k hk => (hmm k hk).1) (fun k hk => (hmm k hk).2.1) (fun k hk => (hmm k hk).2.2.1) (fun k hk => (hmm k hk).2.2.2.1)
  refine W.eq (g2 := F0 m 1132 ls [.int (a_has tb RV (xs ((6 * k9) + 1)) (xs ((6 * k9) + 2))), .int (a_has tb RV (xs ((6 * k9) + 1)) (xs ((6 * k9) + 2)))]) rfl ?_
  refine lv_icmp_eq (tgt := 1170) hx hb d_L_1132 (by decide) (fun _ => ?_) (fun h9 => absurd rfl h9)
  refine W.widen (k := cells + 5) (n := slots + 3100) (by omega) (by omega) ?_
  exact kk _ _ ls hl hS ⟨B, ed, _, _, _, hC, hm, hmm, hrg0, hli0, hed0⟩
theorem d_L_1137 : decode code 1137 = .ok (.aload_n 1, 1) := by decide +kernel
theorem d_L_1138 : decode code 1138 = .ok (.aload_n 0, 1) := by decide +kernel
theorem d_L_1139 : decode code 1139 = .ok (.iload_n 3, 1) := by decide +kernel
theorem d_L_1140 : decode code 1140 = .ok (.iconst 1, 1) := by decide +kernel
theorem d_L_1141 : decode code 1141 = .ok (.iadd, 1) := by decide +kernel
theorem d_L_1142 : decode code 1142 = .ok (.iaload, 1) := by decide +kernel
theorem d_L_1143 : decode code 1143 = .ok (.aload_n 0, 1) := by decide +kernel
theorem d_L_1144 : decode code 1144 = .ok (.iload_n 3, 1) := by decide +kernel
theorem d_L_1145 : decode code 1145 = .ok (.iconst 2, 1) := by decide +kernel
theorem d_L_1146 : decode code 1146 = .ok (.iadd, 1) := by decide +kernel
theorem d_L_1147 : decode code 1147 = .ok (.iaload, 1) := by decide +kernel
theorem d_L_1148 : decode code 1148 = .ok (.invokevirtual 123, 3) := by decide +kernel
theorem d_L_1151 : decode code 1151 = .ok (.aload_n 2, 1) := by decide +kernel
theorem d_L_1152 : decode code 1152 = .ok (.aload_n 0, 1) := by decide +kernel
theorem d_L_1153 : decode code 1153 = .ok (.iload_n 3, 1) := by decide +kernel
theorem d_L_1154 : decode code 1154 = .ok (.iconst 1, 1) := by decide +kernel
theorem d_L_1155 : decode code 1155 = .ok (.iadd, 1) := by decide +kernel
theorem d_L_1156 : decode code 1156 = .ok (.iaload, 1) := by decide +kernel
theorem d_L_1157 : decode code 1157 = .ok (.aload_n 0, 1) := by decide +kernel
theorem d_L_1158 : decode code 1158 = .ok (.iload_n 3, 1) := by decide +kernel
theorem d_L_1159 : decode code 1159 = .ok (.iconst 2, 1) := by decide +kernel
theorem d_L_1160 : decode code 1160 = .ok (.iadd, 1) := by decide +kernel
theorem d_L_1161 : decode code 1161 = .ok (.iaload, 1) := by decide +kernel
theorem d_L_1162 : decode code 1162 = .ok (.invokevirtual 126, 3) := by decide +kernel
theorem d_L_1165 : decode code 1165 = .ok (.if_icmp .eq 5, 3) := by decide +kernel
theorem d_L_1168 : decode code 1168 = .ok (.iconst 0, 1) := by decide +kernel
theorem d_L_1169 : decode code 1169 = .ok (.ireturn, 1) := by decide +kernel
set_option maxHeartbeats 4000000 in
set_option maxRecDepth 100000 in
theorem law_c25 (l : Launch) {p : Program} {e : Env} {s : State} {m : MethodId} {below : List Frame} {meth : Method} {c : Code} {b L : Nat} {xs : Nat → Int32} (hL : L ≤ 3072) (C0 : lw_At p s m meth c b L xs) (D : va_G) (dT : Nat → ClassId) (hK : z_K D dT s) (vv rg li : Nat) (mm : Nat → Nat) (k9 : Nat) (hk9 : 6 * k9 + 6 ≤ L) (H : Heap) (locs : List Loc) (cells slots : Nat) (ls : Array Slot) (hl : lv_has ls 4 [(3, .int (nI (6 * k9))), (2, .ref (mm 0)), (1, .ref vv), (0, .ref b)]) (hS : va_S (fun q => s.heap.size ≤ q) s.heap H locs) (hI : lI D dT s.heap.size vv rg li mm H) (hc : cells + 5 ≤ 600000) (hs : slots + 3100 ≤ 7302250) (kk : ∀ (H : Heap) (locs : List Loc) (ls : Array Slot), lv_has ls 4 [(3, .int (nI (6 * k9))), (2, .ref (mm 0)), (1, .ref vv), (0, .ref b)] → va_S (fun q => s.heap.size ≤ q) s.heap H locs → lI D dT s.heap.size vv rg li mm H → W p l e room_1 s m #[Value.ref b] below meth c H locs (cells + 5) (slots + 3100) (lw_Z below #[Value.ref b] s) (F0 m 1170 ls [])) : W p l e room_1 s m #[Value.ref b] below meth c H locs (cells) (slots) (lw_Z below #[Value.ref b] s) (F0 m 1137 ls []) := by
  obtain ⟨hx, hb, hr, hml, hown, hts, hX, hbl, hlocks, hgv⟩ := C0
  have hown : s.vm.findClass "ValueTreesLaw" = some m.cls := hown
  have ht : ∀ w ∈ gt, w.before #[Value.ref b] s = true := fun w h => hts w (gt_in h)
  have hbA : ¬ (fun q => s.heap.size ≤ q) b := Nat.not_le.mpr hbl
  obtain ⟨B, ed, tb, tc, RV, hC, hm, hmm, hrg0, hli0, hed0⟩ := hI
  have hV := mI_vOK hm
  refine lv_aload_n hx hb d_L_1137 rfl (lv_at hl 2 rfl) ?_
  refine lv_aload_n hx hb d_L_1138 rfl (lv_at hl 3 rfl) ?_
  refine lv_iload_n hx hb d_L_1139 rfl (lv_at hl 0 rfl) ?_
  refine lv_iconst (v := 1) hx hb d_L_1140 (by decide) ?_
  refine lv_iadd hx hb d_L_1141 ?_
  rw [show (((nI (6 * k9)) + 1) : Int32) = nI ((6 * k9) + 1) from nI_add (6 * k9) 1]
  refine z_sld hx hb hX hbl hbA hS ((6 * k9) + 1) rfl (by omega) hL d_L_1142 ?_
  refine lv_aload_n hx hb d_L_1143 rfl (lv_at hl 3 rfl) ?_
  refine lv_iload_n hx hb d_L_1144 rfl (lv_at hl 0 rfl) ?_
  refine lv_iconst (v := 2) hx hb d_L_1145 (by decide) ?_
  refine lv_iadd hx hb d_L_1146 ?_
  rw [show (((nI (6 * k9)) + 2) : Int32) = nI ((6 * k9) + 2) from nI_add (6 * k9) 2]
  refine z_sld hx hb hX hbl hbA hS ((6 * k9) + 2) rfl (by omega) hL d_L_1147 ?_
  have hSp := hS
  have hlt9 := fun (k : Nat) (hk : k < 10) => mI_lt hm hk
  refine z_callR (va_runV (C := "ValueTrees") (As := [.int (xs ((6 * k9) + 1)), .int (xs ((6 * k9) + 2))]) (rest := []) ⟨hx, hb, hml, hown, hts⟩ (p_V_compare l D dT _ B vv rg li ed tb tc RV hC hV (xs ((6 * k9) + 1)) (xs ((6 * k9) + 2))) ⟨callB_of 2 hts (gI gd_lw gd_l q532) rfl rfl rfl (ht _ q1) (ht _ q529) hd_V_compare ⟨Nat.le_of_ble_eq_true rfl, Nat.le_of_ble_eq_true rfl⟩, ht _ q530, ht _ q531⟩ (z_preV hK (va_recv hK.1 (z_1 hC.2.1) (ci := 0) (q0 := 0) rfl rfl)) rfl rfl hl.1 rfl (lv_room (Nat.le_of_ble_eq_true rfl)) d_L_1148 ⟨by show cells + 0 ≤ 600000; omega, by show slots + 0 ≤ 7302250; omega⟩) (fun v2 hv1 => ?_)
  subst hv1
  refine lv_aload_n hx hb d_L_1151 rfl (lv_at hl 1 rfl) ?_
  refine lv_aload_n hx hb d_L_1152 rfl (lv_at hl 3 rfl) ?_
  refine lv_iload_n hx hb d_L_1153 rfl (lv_at hl 0 rfl) ?_
  refine lv_iconst (v := 1) hx hb d_L_1154 (by decide) ?_
  refine lv_iadd hx hb d_L_1155 ?_
  rw [show (((nI (6 * k9)) + 1) : Int32) = nI ((6 * k9) + 1) from nI_add (6 * k9) 1]
  refine z_sld hx hb hX hbl hbA hS ((6 * k9) + 1) rfl (by omega) hL d_L_1156 ?_
  refine lv_aload_n hx hb d_L_1157 rfl (lv_at hl 3 rfl) ?_
  refine lv_iload_n hx hb d_L_1158 rfl (lv_at hl 0 rfl) ?_
  refine lv_iconst (v := 2) hx hb d_L_1159 (by decide) ?_
  refine lv_iadd hx hb d_L_1160 ?_
  rw [show (((nI (6 * k9)) + 2) : Int32) = nI ((6 * k9) + 2) from nI_add (6 * k9) 2]
  refine z_sld hx hb hX hbl hbA hS ((6 * k9) + 2) rfl (by omega) hL d_L_1161 ?_
  obtain ⟨fs9, hmo⟩ := mI_obj hm
  refine z_callQ (va_runV (C := "ValueTreesModel") (As := [.int (xs ((6 * k9) + 1)), .int (xs ((6 * k9) + 2))]) (rest := [.int (a_compare tb RV (xs ((6 * k9) + 1)) (xs ((6 * k9) + 2)))]) ⟨hx, hb, hml, hown, hts⟩ (p_M_compare l D dT _ mm tb tc RV hm (xs ((6 * k9) + 1)) (xs ((6 * k9) + 2))) ⟨callB_of 2 hts (gI gd_lw gd_l q842) rfl rfl rfl (ht _ q10) (ht _ q839) hd_M_compare ⟨Nat.le_of_ble_eq_true rfl, Nat.le_of_ble_eq_true rfl⟩, ht _ q840, ht _ q841⟩ (z_preV hK (z_recv hK hmo rfl)) rfl rfl hl.1 rfl (lv_room (Nat.le_of_ble_eq_true rfl)) d_L_1162 ⟨by show cells + 0 ≤ 600000; omega, by show slots + 0 ≤ 7302250; omega⟩) hS (fun q9 h9 => by obtain ⟨k, hk, e9⟩ := h9; rw [e9]; exact (hmm k hk).2.2.2.2) (fun v4 H locs hv3 hz5 hf6 hS => ?_)
  obtain ⟨rfl, hm⟩ := hv3
  have hC := hC.keepM hz5 hf6 (fun k hk => (hmm k hk).1) (fun k hk => (hmm k hk).2.1) (fun k hk => (hmm k hk).2.2.1) (fun k hk => (hmm k hk).2.2.2.1)
  refine W.eq (g2 := F0 m 1165 ls [.int (a_compare tb RV (xs ((6 * k9) + 1)) (xs ((6 * k9) + 2))), .int (a_compare tb RV (xs ((6 * k9) + 1)) (xs ((6 * k9) + 2)))]) rfl ?_
  refine lv_icmp_eq (tgt := 1170) hx hb d_L_1165 (by decide) (fun _ => ?_) (fun h9 => absurd rfl h9)
  refine W.widen (k := cells + 5) (n := slots + 3100) (by omega) (by omega) ?_
  exact kk _ _ ls hl hS ⟨B, ed, _, _, _, hC, hm, hmm, hrg0, hli0, hed0⟩
