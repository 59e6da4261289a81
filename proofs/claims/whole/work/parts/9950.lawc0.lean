theorem d_L_152 : decode code 152 = .ok (.aload_n 1, 1) := by decide +kernel
theorem d_L_153 : decode code 153 = .ok (.aload_n 0, 1) := by decide +kernel
theorem d_L_154 : decode code 154 = .ok (.iload_n 3, 1) := by decide +kernel
theorem d_L_155 : decode code 155 = .ok (.iconst 1, 1) := by decide +kernel
theorem d_L_156 : decode code 156 = .ok (.iadd, 1) := by decide +kernel
theorem d_L_157 : decode code 157 = .ok (.iaload, 1) := by decide +kernel
theorem d_L_158 : decode code 158 = .ok (.aload_n 0, 1) := by decide +kernel
theorem d_L_159 : decode code 159 = .ok (.iload_n 3, 1) := by decide +kernel
theorem d_L_160 : decode code 160 = .ok (.iconst 2, 1) := by decide +kernel
theorem d_L_161 : decode code 161 = .ok (.iadd, 1) := by decide +kernel
theorem d_L_162 : decode code 162 = .ok (.iaload, 1) := by decide +kernel
theorem d_L_163 : decode code 163 = .ok (.aload_n 0, 1) := by decide +kernel
theorem d_L_164 : decode code 164 = .ok (.iload_n 3, 1) := by decide +kernel
theorem d_L_165 : decode code 165 = .ok (.iconst 3, 1) := by decide +kernel
theorem d_L_166 : decode code 166 = .ok (.iadd, 1) := by decide +kernel
theorem d_L_167 : decode code 167 = .ok (.iaload, 1) := by decide +kernel
theorem d_L_168 : decode code 168 = .ok (.invokevirtual 13, 3) := by decide +kernel
theorem d_L_171 : decode code 171 = .ok (.aload_n 2, 1) := by decide +kernel
theorem d_L_172 : decode code 172 = .ok (.aload_n 0, 1) := by decide +kernel
theorem d_L_173 : decode code 173 = .ok (.iload_n 3, 1) := by decide +kernel
theorem d_L_174 : decode code 174 = .ok (.iconst 1, 1) := by decide +kernel
theorem d_L_175 : decode code 175 = .ok (.iadd, 1) := by decide +kernel
theorem d_L_176 : decode code 176 = .ok (.iaload, 1) := by decide +kernel
theorem d_L_177 : decode code 177 = .ok (.aload_n 0, 1) := by decide +kernel
theorem d_L_178 : decode code 178 = .ok (.iload_n 3, 1) := by decide +kernel
theorem d_L_179 : decode code 179 = .ok (.iconst 2, 1) := by decide +kernel
theorem d_L_180 : decode code 180 = .ok (.iadd, 1) := by decide +kernel
theorem d_L_181 : decode code 181 = .ok (.iaload, 1) := by decide +kernel
theorem d_L_182 : decode code 182 = .ok (.aload_n 0, 1) := by decide +kernel
theorem d_L_183 : decode code 183 = .ok (.iload_n 3, 1) := by decide +kernel
theorem d_L_184 : decode code 184 = .ok (.iconst 3, 1) := by decide +kernel
theorem d_L_185 : decode code 185 = .ok (.iadd, 1) := by decide +kernel
theorem d_L_186 : decode code 186 = .ok (.iaload, 1) := by decide +kernel
theorem d_L_187 : decode code 187 = .ok (.invokevirtual 17, 3) := by decide +kernel
theorem d_L_190 : decode code 190 = .ok (.if_icmp .eq 980, 3) := by decide +kernel
theorem d_L_193 : decode code 193 = .ok (.iconst 0, 1) := by decide +kernel
theorem d_L_194 : decode code 194 = .ok (.ireturn, 1) := by decide +kernel
set_option maxHeartbeats 4000000 in
set_option maxRecDepth 100000 in
theorem law_c0 (l : Launch) {p : Program} {e : Env} {s : State} {m : MethodId} {below : List Frame} {meth : Method} {c : Code} {b L : Nat} {xs : Nat → Int32} (hL : L ≤ 3072) (C0 : lw_At p s m meth c b L xs) (D : va_G) (dT : Nat → ClassId) (hK : z_K D dT s) (vv rg li : Nat) (mm : Nat → Nat) (k9 : Nat) (hk9 : 6 * k9 + 6 ≤ L) (H : Heap) (locs : List Loc) (cells slots : Nat) (ls : Array Slot) (hl : lv_has ls 4 [(3, .int (nI (6 * k9))), (2, .ref (mm 0)), (1, .ref vv), (0, .ref b)]) (hS : va_S (fun q => s.heap.size ≤ q) s.heap H locs) (hI : lI D dT s.heap.size vv rg li mm H) (hc : cells + 5 ≤ 600000) (hs : slots + 3100 ≤ 7302250) (kk : ∀ (H : Heap) (locs : List Loc) (ls : Array Slot), lv_has ls 4 [(3, .int (nI (6 * k9))), (2, .ref (mm 0)), (1, .ref vv), (0, .ref b)] → va_S (fun q => s.heap.size ≤ q) s.heap H locs → lI D dT s.heap.size vv rg li mm H → W p l e room_1 s m #[Value.ref b] below meth c H locs (cells + 5) (slots + 3100) (lw_Z below #[Value.ref b] s) (F0 m 1170 ls [])) : W p l e room_1 s m #[Value.ref b] below meth c H locs (cells) (slots) (lw_Z below #[Value.ref b] s) (F0 m 152 ls []) := by
  obtain ⟨hx, hb, hr, hml, hown, hts, hX, hbl, hlocks, hgv⟩ := C0
  have hown : s.vm.findClass "ValueTreesLaw" = some m.cls := hown
  have ht : ∀ w ∈ gt, w.before #[Value.ref b] s = true := fun w h => hts w (gt_in h)
  have hbA : ¬ (fun q => s.heap.size ≤ q) b := Nat.not_le.mpr hbl
  obtain ⟨B, ed, tb, tc, RV, hC, hm, hmm, hrg0, hli0, hed0⟩ := hI
  have hV := mI_vOK hm
  refine lv_aload_n hx hb d_L_152 rfl (lv_at hl 2 rfl) ?_
  refine lv_aload_n hx hb d_L_153 rfl (lv_at hl 3 rfl) ?_
  refine lv_iload_n hx hb d_L_154 rfl (lv_at hl 0 rfl) ?_
  refine lv_iconst (v := 1) hx hb d_L_155 (by decide) ?_
  refine lv_iadd hx hb d_L_156 ?_
  rw [show (((nI (6 * k9)) + 1) : Int32) = nI ((6 * k9) + 1) from nI_add (6 * k9) 1]
  refine z_sld hx hb hX hbl hbA hS ((6 * k9) + 1) rfl (by omega) hL d_L_157 ?_
  refine lv_aload_n hx hb d_L_158 rfl (lv_at hl 3 rfl) ?_
  refine lv_iload_n hx hb d_L_159 rfl (lv_at hl 0 rfl) ?_
  refine lv_iconst (v := 2) hx hb d_L_160 (by decide) ?_
  refine lv_iadd hx hb d_L_161 ?_
  rw [show (((nI (6 * k9)) + 2) : Int32) = nI ((6 * k9) + 2) from nI_add (6 * k9) 2]
  refine z_sld hx hb hX hbl hbA hS ((6 * k9) + 2) rfl (by omega) hL d_L_162 ?_
  refine lv_aload_n hx hb d_L_163 rfl (lv_at hl 3 rfl) ?_
  refine lv_iload_n hx hb d_L_164 rfl (lv_at hl 0 rfl) ?_
  refine lv_iconst (v := 3) hx hb d_L_165 (by decide) ?_
  refine lv_iadd hx hb d_L_166 ?_
  rw [show (((nI (6 * k9)) + 3) : Int32) = nI ((6 * k9) + 3) from nI_add (6 * k9) 3]
  refine z_sld hx hb hX hbl hbA hS ((6 * k9) + 3) rfl (by omega) hL d_L_167 ?_
  have hSp := hS
  have hlt9 := fun (k : Nat) (hk : k < 10) => mI_lt hm hk
  refine z_callQ (va_runV (C := "ValueTrees") (As := [.int (xs ((6 * k9) + 1)), .int (xs ((6 * k9) + 2)), .int (xs ((6 * k9) + 3))]) (rest := []) ⟨hx, hb, hml, hown, hts⟩ (p_V_type l D dT _ B vv rg li ed tb tc RV hC hV (xs ((6 * k9) + 1)) (xs ((6 * k9) + 2)) (xs ((6 * k9) + 3))) ⟨callB_of 3 hts (gI gd_lw gd_l q155) rfl rfl rfl (ht _ q1) (ht _ q152) hd_V_type ⟨Nat.le_of_ble_eq_true rfl, Nat.le_of_ble_eq_true rfl⟩, ht _ q153, ht _ q154⟩ (z_preV hK (va_recv hK.1 (z_1 hC.2.1) (ci := 0) (q0 := 0) rfl rfl)) rfl rfl hl.1 rfl (lv_room (Nat.le_of_ble_eq_true rfl)) d_L_168 ⟨by show cells + 2 ≤ 600000; omega, by show slots + 3005 ≤ 7302250; omega⟩) hS (fun q9 h9 => h9.elim (fun e9 => by rw [e9]; exact hli0) (fun h9 => h9.elim (fun e9 => by rw [e9]; exact hed0) (fun h8 => Nat.le_trans hSp.1 h8))) (fun v2 H locs hv1 hz3 hf4 hS => ?_)
  obtain ⟨rfl, B2, ed2, he2, hB1, hB2, hC⟩ := hv1
  have hm := hm.keep (fun k hk => hf4 _ (hlt9 k hk) (fun h9 => h9.elim (hmm k hk).2.2.1 (fun h8 => h8.elim (hmm k hk).2.2.2.1 (Nat.not_le.mpr (hlt9 k hk)))))
  have hmm : ∀ k, k < 10 → B2 (mm k) ∧ mm k ≠ rg ∧ mm k ≠ li ∧ mm k ≠ ed2 ∧ s.heap.size ≤ mm k := fun k hk => ⟨hB1 _ (hmm k hk).1, (hmm k hk).2.1, (hmm k hk).2.2.1, fun e9 => he2.elim (fun e8 => (hmm k hk).2.2.2.1 (e9.trans e8)) (fun h8 => absurd (hlt9 k hk) (Nat.not_lt.mpr (by rw [e9]; exact h8))), (hmm k hk).2.2.2.2⟩
  have hed0 : s.heap.size ≤ ed2 := he2.elim (fun e8 => by rw [e8]; exact hed0) (fun h8 => Nat.le_trans hSp.1 h8)
  refine W.eq (g2 := F0 m 171 ls [.int ((a_type tb tc (xs ((6 * k9) + 1)) (xs ((6 * k9) + 2)) (xs ((6 * k9) + 3))).1)]) rfl ?_
  refine lv_aload_n hx hb d_L_171 rfl (lv_at hl 1 rfl) ?_
  refine lv_aload_n hx hb d_L_172 rfl (lv_at hl 3 rfl) ?_
  refine lv_iload_n hx hb d_L_173 rfl (lv_at hl 0 rfl) ?_
  refine lv_iconst (v := 1) hx hb d_L_174 (by decide) ?_
  refine lv_iadd hx hb d_L_175 ?_
  rw [show (((nI (6 * k9)) + 1) : Int32) = nI ((6 * k9) + 1) from nI_add (6 * k9) 1]
  refine z_sld hx hb hX hbl hbA hS ((6 * k9) + 1) rfl (by omega) hL d_L_176 ?_
  refine lv_aload_n hx hb d_L_177 rfl (lv_at hl 3 rfl) ?_
  refine lv_iload_n hx hb d_L_178 rfl (lv_at hl 0 rfl) ?_
  refine lv_iconst (v := 2) hx hb d_L_179 (by decide) ?_
  refine lv_iadd hx hb d_L_180 ?_
  rw [show (((nI (6 * k9)) + 2) : Int32) = nI ((6 * k9) + 2) from nI_add (6 * k9) 2]
  refine z_sld hx hb hX hbl hbA hS ((6 * k9) + 2) rfl (by omega) hL d_L_181 ?_
  refine lv_aload_n hx hb d_L_182 rfl (lv_at hl 3 rfl) ?_
  refine lv_iload_n hx hb d_L_183 rfl (lv_at hl 0 rfl) ?_
  refine lv_iconst (v := 3) hx hb d_L_184 (by decide) ?_
  refine lv_iadd hx hb d_L_185 ?_
  rw [show (((nI (6 * k9)) + 3) : Int32) = nI ((6 * k9) + 3) from nI_add (6 * k9) 3]
  refine z_sld hx hb hX hbl hbA hS ((6 * k9) + 3) rfl (by omega) hL d_L_186 ?_
  obtain ⟨fs9, hmo⟩ := mI_obj hm
  refine z_callQ (va_runV (C := "ValueTreesModel") (As := [.int (xs ((6 * k9) + 1)), .int (xs ((6 * k9) + 2)), .int (xs ((6 * k9) + 3))]) (rest := [.int ((a_type tb tc (xs ((6 * k9) + 1)) (xs ((6 * k9) + 2)) (xs ((6 * k9) + 3))).1)]) ⟨hx, hb, hml, hown, hts⟩ (p_M_type l D dT _ mm tb tc RV hm (xs ((6 * k9) + 1)) (xs ((6 * k9) + 2)) (xs ((6 * k9) + 3))) ⟨callB_of 3 hts (gI gd_lw gd_l q580) rfl rfl rfl (ht _ q10) (ht _ q577) hd_M_type ⟨Nat.le_of_ble_eq_true rfl, Nat.le_of_ble_eq_true rfl⟩, ht _ q578, ht _ q579⟩ (z_preV hK (z_recv hK hmo rfl)) rfl rfl hl.1 rfl (lv_room (Nat.le_of_ble_eq_true rfl)) d_L_187 ⟨by show cells + 2 + 0 ≤ 600000; omega, by show slots + 3005 + 0 ≤ 7302250; omega⟩) hS (fun q9 h9 => by obtain ⟨k, hk, e9⟩ := h9; rw [e9]; exact (hmm k hk).2.2.2.2) (fun v6 H locs hv5 hz7 hf8 hS => ?_)
  obtain ⟨rfl, hm⟩ := hv5
  have hC := hC.keepM hz7 hf8 (fun k hk => (hmm k hk).1) (fun k hk => (hmm k hk).2.1) (fun k hk => (hmm k hk).2.2.1) (fun k hk => (hmm k hk).2.2.2.1)
  refine W.eq (g2 := F0 m 190 ls [.int ((a_type tb tc (xs ((6 * k9) + 1)) (xs ((6 * k9) + 2)) (xs ((6 * k9) + 3))).1), .int ((a_type tb tc (xs ((6 * k9) + 1)) (xs ((6 * k9) + 2)) (xs ((6 * k9) + 3))).1)]) rfl ?_
  refine lv_icmp_eq (tgt := 1170) hx hb d_L_190 (by decide) (fun _ => ?_) (fun h9 => absurd rfl h9)
  refine W.widen (k := cells + 5) (n := slots + 3100) (by omega) (by omega) ?_
  exact kk _ _ ls hl hS ⟨B2, ed2, _, _, _, hC, hm, hmm, hrg0, hli0, hed0⟩
theorem d_L_195 : decode code 195 = .ok (.aload_n 1, 1) := by decide +kernel
theorem d_L_196 : decode code 196 = .ok (.aload_n 0, 1) := by decide +kernel
theorem d_L_197 : decode code 197 = .ok (.iload_n 3, 1) := by decide +kernel
theorem d_L_198 : decode code 198 = .ok (.iconst 1, 1) := by decide +kernel
theorem d_L_199 : decode code 199 = .ok (.iadd, 1) := by decide +kernel
theorem d_L_200 : decode code 200 = .ok (.iaload, 1) := by decide +kernel
theorem d_L_201 : decode code 201 = .ok (.aload_n 0, 1) := by decide +kernel
theorem d_L_202 : decode code 202 = .ok (.iload_n 3, 1) := by decide +kernel
theorem d_L_203 : decode code 203 = .ok (.iconst 2, 1) := by decide +kernel
theorem d_L_204 : decode code 204 = .ok (.iadd, 1) := by decide +kernel
theorem d_L_205 : decode code 205 = .ok (.iaload, 1) := by decide +kernel
theorem d_L_206 : decode code 206 = .ok (.invokevirtual 18, 3) := by decide +kernel
theorem d_L_209 : decode code 209 = .ok (.aload_n 2, 1) := by decide +kernel
theorem d_L_210 : decode code 210 = .ok (.aload_n 0, 1) := by decide +kernel
theorem d_L_211 : decode code 211 = .ok (.iload_n 3, 1) := by decide +kernel
theorem d_L_212 : decode code 212 = .ok (.iconst 1, 1) := by decide +kernel
theorem d_L_213 : decode code 213 = .ok (.iadd, 1) := by decide +kernel
theorem d_L_214 : decode code 214 = .ok (.iaload, 1) := by decide +kernel
theorem d_L_215 : decode code 215 = .ok (.aload_n 0, 1) := by decide +kernel
theorem d_L_216 : decode code 216 = .ok (.iload_n 3, 1) := by decide +kernel
theorem d_L_217 : decode code 217 = .ok (.iconst 2, 1) := by decide +kernel
theorem d_L_218 : decode code 218 = .ok (.iadd, 1) := by decide +kernel
theorem d_L_219 : decode code 219 = .ok (.iaload, 1) := by decide +kernel
theorem d_L_220 : decode code 220 = .ok (.invokevirtual 22, 3) := by decide +kernel
theorem d_L_223 : decode code 223 = .ok (.if_icmp .eq 947, 3) := by decide +kernel
theorem d_L_226 : decode code 226 = .ok (.iconst 0, 1) := by decide +kernel
theorem d_L_227 : decode code 227 = .ok (.ireturn, 1) := by decide +kernel
set_option maxHeartbeats 4000000 in
set_option maxRecDepth 100000 in
theorem law_c1 (l : Launch) {p : Program} {e : Env} {s : State} {m : MethodId} {below : List Frame} {meth : Method} {c : Code} {b L : Nat} {xs : Nat → Int32} (hL : L ≤ 3072) (C0 : lw_At p s m meth c b L xs) (D : va_G) (dT : Nat → ClassId) (hK : z_K D dT s) (vv rg li : Nat) (mm : Nat → Nat) (k9 : Nat) (hk9 : 6 * k9 + 6 ≤ L) (H : Heap) (locs : List Loc) (cells slots : Nat) (ls : Array Slot) (hl : lv_has ls 4 [(3, .int (nI (6 * k9))), (2, .ref (mm 0)), (1, .ref vv), (0, .ref b)]) (hS : va_S (fun q => s.heap.size ≤ q) s.heap H locs) (hI : lI D dT s.heap.size vv rg li mm H) (hc : cells + 5 ≤ 600000) (hs : slots + 3100 ≤ 7302250) (kk : ∀ (H : Heap) (locs : List Loc) (ls : Array Slot), lv_has ls 4 [(3, .int (nI (6 * k9))), (2, .ref (mm 0)), (1, .ref vv), (0, .ref b)] → va_S (fun q => s.heap.size ≤ q) s.heap H locs → lI D dT s.heap.size vv rg li mm H → W p l e room_1 s m #[Value.ref b] below meth c H locs (cells + 5) (slots + 3100) (lw_Z below #[Value.ref b] s) (F0 m 1170 ls [])) : W p l e room_1 s m #[Value.ref b] below meth c H locs (cells) (slots) (lw_Z below #[Value.ref b] s) (F0 m 195 ls []) := by
  obtain ⟨hx, hb, hr, hml, hown, hts, hX, hbl, hlocks, hgv⟩ := C0
  have hown : s.vm.findClass "ValueTreesLaw" = some m.cls := hown
  have ht : ∀ w ∈ gt, w.before #[Value.ref b] s = true := fun w h => hts w (gt_in h)
  have hbA : ¬ (fun q => s.heap.size ≤ q) b := Nat.not_le.mpr hbl
  obtain ⟨B, ed, tb, tc, RV, hC, hm, hmm, hrg0, hli0, hed0⟩ := hI
  have hV := mI_vOK hm
  refine lv_aload_n hx hb d_L_195 rfl (lv_at hl 2 rfl) ?_
  refine lv_aload_n hx hb d_L_196 rfl (lv_at hl 3 rfl) ?_
  refine lv_iload_n hx hb d_L_197 rfl (lv_at hl 0 rfl) ?_
  refine lv_iconst (v := 1) hx hb d_L_198 (by decide) ?_
  refine lv_iadd hx hb d_L_199 ?_
  rw [show (((nI (6 * k9)) + 1) : Int32) = nI ((6 * k9) + 1) from nI_add (6 * k9) 1]
  refine z_sld hx hb hX hbl hbA hS ((6 * k9) + 1) rfl (by omega) hL d_L_200 ?_
  refine lv_aload_n hx hb d_L_201 rfl (lv_at hl 3 rfl) ?_
  refine lv_iload_n hx hb d_L_202 rfl (lv_at hl 0 rfl) ?_
  refine lv_iconst (v := 2) hx hb d_L_203 (by decide) ?_
  refine lv_iadd hx hb d_L_204 ?_
  rw [show (((nI (6 * k9)) + 2) : Int32) = nI ((6 * k9) + 2) from nI_add (6 * k9) 2]
  refine z_sld hx hb hX hbl hbA hS ((6 * k9) + 2) rfl (by omega) hL d_L_205 ?_
  have hSp := hS
  have hlt9 := fun (k : Nat) (hk : k < 10) => mI_lt hm hk
  refine z_callR (va_runV (C := "ValueTrees") (As := [.int (xs ((6 * k9) + 1)), .int (xs ((6 * k9) + 2))]) (rest := []) ⟨hx, hb, hml, hown, hts⟩ (p_V_ofType l D dT _ B vv rg li ed tb tc RV hC hV (xs ((6 * k9) + 1)) (xs ((6 * k9) + 2))) ⟨callB_of 2 hts (gI gd_lw gd_l q197) rfl rfl rfl (ht _ q1) (ht _ q194) hd_V_ofType ⟨Nat.le_of_ble_eq_true rfl, Nat.le_of_ble_eq_true rfl⟩, ht _ q195, ht _ q196⟩ (z_preV hK (va_recv hK.1 (z_1 hC.2.1) (ci := 0) (q0 := 0) rfl rfl)) rfl rfl hl.1 rfl (lv_room (Nat.le_of_ble_eq_true rfl)) d_L_206 ⟨by show cells + 0 ≤ 600000; omega, by show slots + 0 ≤ 7302250; omega⟩) (fun v2 hv1 => ?_)
  subst hv1
  refine lv_aload_n hx hb d_L_209 rfl (lv_at hl 1 rfl) ?_
  refine lv_aload_n hx hb d_L_210 rfl (lv_at hl 3 rfl) ?_
  refine lv_iload_n hx hb d_L_211 rfl (lv_at hl 0 rfl) ?_
  refine lv_iconst (v := 1) hx hb d_L_212 (by decide) ?_
  refine lv_iadd hx hb d_L_213 ?_
  rw [show (((nI (6 * k9)) + 1) : Int32) = nI ((6 * k9) + 1) from nI_add (6 * k9) 1]
  refine z_sld hx hb hX hbl hbA hS ((6 * k9) + 1) rfl (by omega) hL d_L_214 ?_
  refine lv_aload_n hx hb d_L_215 rfl (lv_at hl 3 rfl) ?_
  refine lv_iload_n hx hb d_L_216 rfl (lv_at hl 0 rfl) ?_
  refine lv_iconst (v := 2) hx hb d_L_217 (by decide) ?_
  refine lv_iadd hx hb d_L_218 ?_
  rw [show (((nI (6 * k9)) + 2) : Int32) = nI ((6 * k9) + 2) from nI_add (6 * k9) 2]
  refine z_sld hx hb hX hbl hbA hS ((6 * k9) + 2) rfl (by omega) hL d_L_219 ?_
  obtain ⟨fs9, hmo⟩ := mI_obj hm
  refine z_callR (va_runV (C := "ValueTreesModel") (As := [.int (xs ((6 * k9) + 1)), .int (xs ((6 * k9) + 2))]) (rest := [.int (a_ofType tb tc (xs ((6 * k9) + 1)) (xs ((6 * k9) + 2)))]) ⟨hx, hb, hml, hown, hts⟩ (p_M_ofType l D dT _ mm tb tc RV hm (xs ((6 * k9) + 1)) (xs ((6 * k9) + 2))) ⟨callB_of 2 hts (gI gd_lw gd_l q604) rfl rfl rfl (ht _ q10) (ht _ q601) hd_M_ofType ⟨Nat.le_of_ble_eq_true rfl, Nat.le_of_ble_eq_true rfl⟩, ht _ q602, ht _ q603⟩ (z_preV hK (z_recv hK hmo rfl)) rfl rfl hl.1 rfl (lv_room (Nat.le_of_ble_eq_true rfl)) d_L_220 ⟨by show cells + 0 ≤ 600000; omega, by show slots + 0 ≤ 7302250; omega⟩) (fun v4 hv3 => ?_)
  subst hv3
  refine lv_icmp_eq (tgt := 1170) hx hb d_L_223 (by decide) (fun _ => ?_) (fun h9 => absurd rfl h9)
  refine W.widen (k := cells + 5) (n := slots + 3100) (by omega) (by omega) ?_
  exact kk _ _ ls hl hS ⟨B, ed, _, _, _, hC, hm, hmm, hrg0, hli0, hed0⟩
theorem d_L_228 : decode code 228 = .ok (.aload_n 1, 1) := by decide +kernel
theorem d_L_229 : decode code 229 = .ok (.aload_n 0, 1) := by decide +kernel
theorem d_L_230 : decode code 230 = .ok (.iload_n 3, 1) := by decide +kernel
theorem d_L_231 : decode code 231 = .ok (.iconst 1, 1) := by decide +kernel
theorem d_L_232 : decode code 232 = .ok (.iadd, 1) := by decide +kernel
theorem d_L_233 : decode code 233 = .ok (.iaload, 1) := by decide +kernel
theorem d_L_234 : decode code 234 = .ok (.aload_n 0, 1) := by decide +kernel
theorem d_L_235 : decode code 235 = .ok (.iload_n 3, 1) := by decide +kernel
theorem d_L_236 : decode code 236 = .ok (.iconst 2, 1) := by decide +kernel
theorem d_L_237 : decode code 237 = .ok (.iadd, 1) := by decide +kernel
theorem d_L_238 : decode code 238 = .ok (.iaload, 1) := by decide +kernel
theorem d_L_239 : decode code 239 = .ok (.aload_n 0, 1) := by decide +kernel
theorem d_L_240 : decode code 240 = .ok (.iload_n 3, 1) := by decide +kernel
theorem d_L_241 : decode code 241 = .ok (.iconst 3, 1) := by decide +kernel
theorem d_L_242 : decode code 242 = .ok (.iadd, 1) := by decide +kernel
theorem d_L_243 : decode code 243 = .ok (.iaload, 1) := by decide +kernel
theorem d_L_244 : decode code 244 = .ok (.i2l, 1) := by decide +kernel
theorem d_L_245 : decode code 245 = .ok (.bipush 32, 2) := by decide +kernel
theorem d_L_247 : decode code 247 = .ok (.lshl, 1) := by decide +kernel
theorem d_L_248 : decode code 248 = .ok (.aload_n 0, 1) := by decide +kernel
theorem d_L_249 : decode code 249 = .ok (.iload_n 3, 1) := by decide +kernel
theorem d_L_250 : decode code 250 = .ok (.iconst 4, 1) := by decide +kernel
theorem d_L_251 : decode code 251 = .ok (.iadd, 1) := by decide +kernel
theorem d_L_252 : decode code 252 = .ok (.iaload, 1) := by decide +kernel
theorem d_L_253 : decode code 253 = .ok (.i2l, 1) := by decide +kernel
theorem d_L_254 : decode code 254 = .ok (.ldc2_w 23, 3) := by decide +kernel
theorem d_L_257 : decode code 257 = .ok (.land, 1) := by decide +kernel
theorem d_L_258 : decode code 258 = .ok (.lor, 1) := by decide +kernel
theorem d_L_259 : decode code 259 = .ok (.invokevirtual 25, 3) := by decide +kernel
theorem d_L_262 : decode code 262 = .ok (.aload_n 2, 1) := by decide +kernel
theorem d_L_263 : decode code 263 = .ok (.aload_n 0, 1) := by decide +kernel
theorem d_L_264 : decode code 264 = .ok (.iload_n 3, 1) := by decide +kernel
theorem d_L_265 : decode code 265 = .ok (.iconst 1, 1) := by decide +kernel
theorem d_L_266 : decode code 266 = .ok (.iadd, 1) := by decide +kernel
theorem d_L_267 : decode code 267 = .ok (.iaload, 1) := by decide +kernel
theorem d_L_268 : decode code 268 = .ok (.aload_n 0, 1) := by decide +kernel
theorem d_L_269 : decode code 269 = .ok (.iload_n 3, 1) := by decide +kernel
theorem d_L_270 : decode code 270 = .ok (.iconst 2, 1) := by decide +kernel
theorem d_L_271 : decode code 271 = .ok (.iadd, 1) := by decide +kernel
theorem d_L_272 : decode code 272 = .ok (.iaload, 1) := by decide +kernel
theorem d_L_273 : decode code 273 = .ok (.aload_n 0, 1) := by decide +kernel
theorem d_L_274 : decode code 274 = .ok (.iload_n 3, 1) := by decide +kernel
theorem d_L_275 : decode code 275 = .ok (.iconst 3, 1) := by decide +kernel
theorem d_L_276 : decode code 276 = .ok (.iadd, 1) := by decide +kernel
theorem d_L_277 : decode code 277 = .ok (.iaload, 1) := by decide +kernel
theorem d_L_278 : decode code 278 = .ok (.i2l, 1) := by decide +kernel
theorem d_L_279 : decode code 279 = .ok (.bipush 32, 2) := by decide +kernel
theorem d_L_281 : decode code 281 = .ok (.lshl, 1) := by decide +kernel
theorem d_L_282 : decode code 282 = .ok (.aload_n 0, 1) := by decide +kernel
theorem d_L_283 : decode code 283 = .ok (.iload_n 3, 1) := by decide +kernel
theorem d_L_284 : decode code 284 = .ok (.iconst 4, 1) := by decide +kernel
theorem d_L_285 : decode code 285 = .ok (.iadd, 1) := by decide +kernel
theorem d_L_286 : decode code 286 = .ok (.iaload, 1) := by decide +kernel
theorem d_L_287 : decode code 287 = .ok (.i2l, 1) := by decide +kernel
theorem d_L_288 : decode code 288 = .ok (.ldc2_w 23, 3) := by decide +kernel
theorem d_L_291 : decode code 291 = .ok (.land, 1) := by decide +kernel
theorem d_L_292 : decode code 292 = .ok (.lor, 1) := by decide +kernel
theorem d_L_293 : decode code 293 = .ok (.invokevirtual 29, 3) := by decide +kernel
theorem d_L_296 : decode code 296 = .ok (.if_icmp .eq 874, 3) := by decide +kernel
theorem d_L_299 : decode code 299 = .ok (.iconst 0, 1) := by decide +kernel
theorem d_L_300 : decode code 300 = .ok (.ireturn, 1) := by decide +kernel
set_option maxHeartbeats 4000000 in
set_option maxRecDepth 100000 in
theorem law_c2 (l : Launch) {p : Program} {e : Env} {s : State} {m : MethodId} {below : List Frame} {meth : Method} {c : Code} {b L : Nat} {xs : Nat → Int32} (hL : L ≤ 3072) (C0 : lw_At p s m meth c b L xs) (D : va_G) (dT : Nat → ClassId) (hK : z_K D dT s) (vv rg li : Nat) (mm : Nat → Nat) (k9 : Nat) (hk9 : 6 * k9 + 6 ≤ L) (H : Heap) (locs : List Loc) (cells slots : Nat) (ls : Array Slot) (hl : lv_has ls 4 [(3, .int (nI (6 * k9))), (2, .ref (mm 0)), (1, .ref vv), (0, .ref b)]) (hS : va_S (fun q => s.heap.size ≤ q) s.heap H locs) (hI : lI D dT s.heap.size vv rg li mm H) (hc : cells + 5 ≤ 600000) (hs : slots + 3100 ≤ 7302250) (kk : ∀ (H : Heap) (locs : List Loc) (ls : Array Slot), lv_has ls 4 [(3, .int (nI (6 * k9))), (2, .ref (mm 0)), (1, .ref vv), (0, .ref b)] → va_S (fun q => s.heap.size ≤ q) s.heap H locs → lI D dT s.heap.size vv rg li mm H → W p l e room_1 s m #[Value.ref b] below meth c H locs (cells + 5) (slots + 3100) (lw_Z below #[Value.ref b] s) (F0 m 1170 ls [])) : W p l e room_1 s m #[Value.ref b] below meth c H locs (cells) (slots) (lw_Z below #[Value.ref b] s) (F0 m 228 ls []) := by
  obtain ⟨hx, hb, hr, hml, hown, hts, hX, hbl, hlocks, hgv⟩ := C0
  have hown : s.vm.findClass "ValueTreesLaw" = some m.cls := hown
  have ht : ∀ w ∈ gt, w.before #[Value.ref b] s = true := fun w h => hts w (gt_in h)
  have hbA : ¬ (fun q => s.heap.size ≤ q) b := Nat.not_le.mpr hbl
  obtain ⟨B, ed, tb, tc, RV, hC, hm, hmm, hrg0, hli0, hed0⟩ := hI
  have hV := mI_vOK hm
  refine lv_aload_n hx hb d_L_228 rfl (lv_at hl 2 rfl) ?_
  refine lv_aload_n hx hb d_L_229 rfl (lv_at hl 3 rfl) ?_
  refine lv_iload_n hx hb d_L_230 rfl (lv_at hl 0 rfl) ?_
  refine lv_iconst (v := 1) hx hb d_L_231 (by decide) ?_
  refine lv_iadd hx hb d_L_232 ?_
  rw [show (((nI (6 * k9)) + 1) : Int32) = nI ((6 * k9) + 1) from nI_add (6 * k9) 1]
  refine z_sld hx hb hX hbl hbA hS ((6 * k9) + 1) rfl (by omega) hL d_L_233 ?_
  refine lv_aload_n hx hb d_L_234 rfl (lv_at hl 3 rfl) ?_
  refine lv_iload_n hx hb d_L_235 rfl (lv_at hl 0 rfl) ?_
  refine lv_iconst (v := 2) hx hb d_L_236 (by decide) ?_
  refine lv_iadd hx hb d_L_237 ?_
  rw [show (((nI (6 * k9)) + 2) : Int32) = nI ((6 * k9) + 2) from nI_add (6 * k9) 2]
  refine z_sld hx hb hX hbl hbA hS ((6 * k9) + 2) rfl (by omega) hL d_L_238 ?_
  refine lv_aload_n hx hb d_L_239 rfl (lv_at hl 3 rfl) ?_
  refine lv_iload_n hx hb d_L_240 rfl (lv_at hl 0 rfl) ?_
  refine lv_iconst (v := 3) hx hb d_L_241 (by decide) ?_
  refine lv_iadd hx hb d_L_242 ?_
  rw [show (((nI (6 * k9)) + 3) : Int32) = nI ((6 * k9) + 3) from nI_add (6 * k9) 3]
  refine z_sld hx hb hX hbl hbA hS ((6 * k9) + 3) rfl (by omega) hL d_L_243 ?_
  refine lv_i2l (v := (xs ((6 * k9) + 3)).toInt64) hx hb d_L_244 rfl ?_
  refine lv_bipush (v := 32) hx hb d_L_245 (by decide) ?_
  refine lv_lshl (v := (((xs ((6 * k9) + 3)).toInt64) <<< ((32 : Int32).toInt64 &&& 63))) hx hb d_L_247 rfl ?_
  refine lv_aload_n hx hb d_L_248 rfl (lv_at hl 3 rfl) ?_
  refine lv_iload_n hx hb d_L_249 rfl (lv_at hl 0 rfl) ?_
  refine lv_iconst (v := 4) hx hb d_L_250 (by decide) ?_
  refine lv_iadd hx hb d_L_251 ?_
  rw [show (((nI (6 * k9)) + 4) : Int32) = nI ((6 * k9) + 4) from nI_add (6 * k9) 4]
  refine z_sld hx hb hX hbl hbA hS ((6 * k9) + 4) rfl (by omega) hL d_L_252 ?_
  refine lv_i2l (v := (xs ((6 * k9) + 4)).toInt64) hx hb d_L_253 rfl ?_
  refine lv_ldc2 (v := 4294967295) hx hb hown (ht _ q843) d_L_254 ?_
  refine lv_land hx hb d_L_257 ?_
  refine lv_lor hx hb d_L_258 ?_
  have hSp := hS
  have hlt9 := fun (k : Nat) (hk : k < 10) => mI_lt hm hk
  refine z_callQ (va_runV (C := "ValueTrees") (As := [.int (xs ((6 * k9) + 1)), .int (xs ((6 * k9) + 2)), .long ((((xs ((6 * k9) + 3)).toInt64) <<< ((32 : Int32).toInt64 &&& 63)) ||| (((xs ((6 * k9) + 4)).toInt64) &&& 4294967295))]) (rest := []) ⟨hx, hb, hml, hown, hts⟩ (p_V_number l D dT _ B vv rg li ed tb tc RV hC hV (xs ((6 * k9) + 1)) (xs ((6 * k9) + 2)) ((((xs ((6 * k9) + 3)).toInt64) <<< ((32 : Int32).toInt64 &&& 63)) ||| (((xs ((6 * k9) + 4)).toInt64) &&& 4294967295))) ⟨callB_of 3 hts (gI gd_lw gd_l q201) rfl rfl rfl (ht _ q1) (ht _ q198) hd_V_number ⟨Nat.le_of_ble_eq_true rfl, Nat.le_of_ble_eq_true rfl⟩, ht _ q199, ht _ q200⟩ (z_preV hK (va_recv hK.1 (z_1 hC.2.1) (ci := 0) (q0 := 0) rfl rfl)) rfl rfl hl.1 rfl (lv_room (Nat.le_of_ble_eq_true rfl)) d_L_259 ⟨by show cells + 2 ≤ 600000; omega, by show slots + 9 ≤ 7302250; omega⟩) hS (fun q9 h9 => h9.elim (fun e9 => by rw [e9]; exact hrg0) (fun h8 => Nat.le_trans hSp.1 h8)) (fun v2 H locs hv1 hz3 hf4 hS => ?_)
  obtain ⟨rfl, hC⟩ := hv1
  have hm := hm.keep (fun k hk => hf4 _ (hlt9 k hk) (fun h9 => h9.elim (hmm k hk).2.1 (Nat.not_le.mpr (hlt9 k hk))))
  refine W.eq (g2 := F0 m 262 ls [.int ((kp RV (xs ((6 * k9) + 1)) (o_number (xs ((6 * k9) + 2)) ((((xs ((6 * k9) + 3)).toInt64) <<< ((32 : Int32).toInt64 &&& 63)) ||| (((xs ((6 * k9) + 4)).toInt64) &&& 4294967295)))).1)]) rfl ?_
  refine lv_aload_n hx hb d_L_262 rfl (lv_at hl 1 rfl) ?_
  refine lv_aload_n hx hb d_L_263 rfl (lv_at hl 3 rfl) ?_
  refine lv_iload_n hx hb d_L_264 rfl (lv_at hl 0 rfl) ?_
  refine lv_iconst (v := 1) hx hb d_L_265 (by decide) ?_
  refine lv_iadd hx hb d_L_266 ?_
  rw [show (((nI (6 * k9)) + 1) : Int32) = nI ((6 * k9) + 1) from nI_add (6 * k9) 1]
  refine z_sld hx hb hX hbl hbA hS ((6 * k9) + 1) rfl (by omega) hL d_L_267 ?_
  refine lv_aload_n hx hb d_L_268 rfl (lv_at hl 3 rfl) ?_
  refine lv_iload_n hx hb d_L_269 rfl (lv_at hl 0 rfl) ?_
  refine lv_iconst (v := 2) hx hb d_L_270 (by decide) ?_
  refine lv_iadd hx hb d_L_271 ?_
  rw [show (((nI (6 * k9)) + 2) : Int32) = nI ((6 * k9) + 2) from nI_add (6 * k9) 2]
  refine z_sld hx hb hX hbl hbA hS ((6 * k9) + 2) rfl (by omega) hL d_L_272 ?_
  refine lv_aload_n hx hb d_L_273 rfl (lv_at hl 3 rfl) ?_
  refine lv_iload_n hx hb d_L_274 rfl (lv_at hl 0 rfl) ?_
  refine lv_iconst (v := 3) hx hb d_L_275 (by decide) ?_
  refine lv_iadd hx hb d_L_276 ?_
  rw [show (((nI (6 * k9)) + 3) : Int32) = nI ((6 * k9) + 3) from nI_add (6 * k9) 3]
  refine z_sld hx hb hX hbl hbA hS ((6 * k9) + 3) rfl (by omega) hL d_L_277 ?_
  refine lv_i2l (v := (xs ((6 * k9) + 3)).toInt64) hx hb d_L_278 rfl ?_
  refine lv_bipush (v := 32) hx hb d_L_279 (by decide) ?_
  refine lv_lshl (v := (((xs ((6 * k9) + 3)).toInt64) <<< ((32 : Int32).toInt64 &&& 63))) hx hb d_L_281 rfl ?_
  refine lv_aload_n hx hb d_L_282 rfl (lv_at hl 3 rfl) ?_
  refine lv_iload_n hx hb d_L_283 rfl (lv_at hl 0 rfl) ?_
  refine lv_iconst (v := 4) hx hb d_L_284 (by decide) ?_
  refine lv_iadd hx hb d_L_285 ?_
  rw [show (((nI (6 * k9)) + 4) : Int32) = nI ((6 * k9) + 4) from nI_add (6 * k9) 4]
  refine z_sld hx hb hX hbl hbA hS ((6 * k9) + 4) rfl (by omega) hL d_L_286 ?_
  refine lv_i2l (v := (xs ((6 * k9) + 4)).toInt64) hx hb d_L_287 rfl ?_
  refine lv_ldc2 (v := 4294967295) hx hb hown (ht _ q843) d_L_288 ?_
  refine lv_land hx hb d_L_291 ?_
  refine lv_lor hx hb d_L_292 ?_
  obtain ⟨fs9, hmo⟩ := mI_obj hm
  refine z_callQ (va_runV (C := "ValueTreesModel") (As := [.int (xs ((6 * k9) + 1)), .int (xs ((6 * k9) + 2)), .long ((((xs ((6 * k9) + 3)).toInt64) <<< ((32 : Int32).toInt64 &&& 63)) ||| (((xs ((6 * k9) + 4)).toInt64) &&& 4294967295))]) (rest := [.int ((kp RV (xs ((6 * k9) + 1)) (o_number (xs ((6 * k9) + 2)) ((((xs ((6 * k9) + 3)).toInt64) <<< ((32 : Int32).toInt64 &&& 63)) ||| (((xs ((6 * k9) + 4)).toInt64) &&& 4294967295)))).1)]) ⟨hx, hb, hml, hown, hts⟩ (p_M_number l D dT _ mm tb tc RV hm (xs ((6 * k9) + 1)) (xs ((6 * k9) + 2)) ((((xs ((6 * k9) + 3)).toInt64) <<< ((32 : Int32).toInt64 &&& 63)) ||| (((xs ((6 * k9) + 4)).toInt64) &&& 4294967295))) ⟨callB_of 3 hts (gI gd_lw gd_l q616) rfl rfl rfl (ht _ q10) (ht _ q613) hd_M_number ⟨Nat.le_of_ble_eq_true rfl, Nat.le_of_ble_eq_true rfl⟩, ht _ q614, ht _ q615⟩ (z_preV hK (z_recv hK hmo rfl)) rfl rfl hl.1 rfl (lv_room (Nat.le_of_ble_eq_true rfl)) d_L_293 ⟨by show cells + 2 + 0 ≤ 600000; omega, by show slots + 9 + 0 ≤ 7302250; omega⟩) hS (fun q9 h9 => by obtain ⟨k, hk, e9⟩ := h9; rw [e9]; exact (hmm k hk).2.2.2.2) (fun v6 H locs hv5 hz7 hf8 hS => ?_)
  obtain ⟨rfl, hm⟩ := hv5
  have hC := hC.keepM hz7 hf8 (fun k hk => (hmm k hk).1) (fun k hk => (hmm k hk).2.1) (fun k hk => (hmm k hk).2.2.1) (fun k hk => (hmm k hk).2.2.2.1)
  refine W.eq (g2 := F0 m 296 ls [.int ((kp RV (xs ((6 * k9) + 1)) (o_number (xs ((6 * k9) + 2)) ((((xs ((6 * k9) + 3)).toInt64) <<< ((32 : Int32).toInt64 &&& 63)) ||| (((xs ((6 * k9) + 4)).toInt64) &&& 4294967295)))).1), .int ((kp RV (xs ((6 * k9) + 1)) (o_number (xs ((6 * k9) + 2)) ((((xs ((6 * k9) + 3)).toInt64) <<< ((32 : Int32).toInt64 &&& 63)) ||| (((xs ((6 * k9) + 4)).toInt64) &&& 4294967295)))).1)]) rfl ?_
  refine lv_icmp_eq (tgt := 1170) hx hb d_L_296 (by decide) (fun _ => ?_) (fun h9 => absurd rfl h9)
  refine W.widen (k := cells + 5) (n := slots + 3100) (by omega) (by omega) ?_
  exact kk _ _ ls hl hS ⟨B, ed, _, _, _, hC, hm, hmm, hrg0, hli0, hed0⟩
theorem d_L_301 : decode code 301 = .ok (.aload_n 1, 1) := by decide +kernel
theorem d_L_302 : decode code 302 = .ok (.aload_n 0, 1) := by decide +kernel
theorem d_L_303 : decode code 303 = .ok (.iload_n 3, 1) := by decide +kernel
theorem d_L_304 : decode code 304 = .ok (.iconst 1, 1) := by decide +kernel
theorem d_L_305 : decode code 305 = .ok (.iadd, 1) := by decide +kernel
theorem d_L_306 : decode code 306 = .ok (.iaload, 1) := by decide +kernel
theorem d_L_307 : decode code 307 = .ok (.aload_n 0, 1) := by decide +kernel
theorem d_L_308 : decode code 308 = .ok (.iload_n 3, 1) := by decide +kernel
theorem d_L_309 : decode code 309 = .ok (.iconst 2, 1) := by decide +kernel
theorem d_L_310 : decode code 310 = .ok (.iadd, 1) := by decide +kernel
theorem d_L_311 : decode code 311 = .ok (.iaload, 1) := by decide +kernel
theorem d_L_312 : decode code 312 = .ok (.aload_n 0, 1) := by decide +kernel
theorem d_L_313 : decode code 313 = .ok (.iload_n 3, 1) := by decide +kernel
theorem d_L_314 : decode code 314 = .ok (.iconst 3, 1) := by decide +kernel
theorem d_L_315 : decode code 315 = .ok (.iadd, 1) := by decide +kernel
theorem d_L_316 : decode code 316 = .ok (.iaload, 1) := by decide +kernel
theorem d_L_317 : decode code 317 = .ok (.invokevirtual 30, 3) := by decide +kernel
theorem d_L_320 : decode code 320 = .ok (.aload_n 2, 1) := by decide +kernel
theorem d_L_321 : decode code 321 = .ok (.aload_n 0, 1) := by decide +kernel
theorem d_L_322 : decode code 322 = .ok (.iload_n 3, 1) := by decide +kernel
theorem d_L_323 : decode code 323 = .ok (.iconst 1, 1) := by decide +kernel
theorem d_L_324 : decode code 324 = .ok (.iadd, 1) := by decide +kernel
theorem d_L_325 : decode code 325 = .ok (.iaload, 1) := by decide +kernel
theorem d_L_326 : decode code 326 = .ok (.aload_n 0, 1) := by decide +kernel
theorem d_L_327 : decode code 327 = .ok (.iload_n 3, 1) := by decide +kernel
theorem d_L_328 : decode code 328 = .ok (.iconst 2, 1) := by decide +kernel
theorem d_L_329 : decode code 329 = .ok (.iadd, 1) := by decide +kernel
theorem d_L_330 : decode code 330 = .ok (.iaload, 1) := by decide +kernel
theorem d_L_331 : decode code 331 = .ok (.aload_n 0, 1) := by decide +kernel
theorem d_L_332 : decode code 332 = .ok (.iload_n 3, 1) := by decide +kernel
theorem d_L_333 : decode code 333 = .ok (.iconst 3, 1) := by decide +kernel
theorem d_L_334 : decode code 334 = .ok (.iadd, 1) := by decide +kernel
theorem d_L_335 : decode code 335 = .ok (.iaload, 1) := by decide +kernel
theorem d_L_336 : decode code 336 = .ok (.invokevirtual 33, 3) := by decide +kernel
theorem d_L_339 : decode code 339 = .ok (.if_icmp .eq 831, 3) := by decide +kernel
theorem d_L_342 : decode code 342 = .ok (.iconst 0, 1) := by decide +kernel
theorem d_L_343 : decode code 343 = .ok (.ireturn, 1) := by decide +kernel
set_option maxHeartbeats 4000000 in
set_option maxRecDepth 100000 in
theorem law_c3 (l : Launch) {p : Program} {e : Env} {s : State} {m : MethodId} {below : List Frame} {meth : Method} {c : Code} {b L : Nat} {xs : Nat → Int32} (hL : L ≤ 3072) (C0 : lw_At p s m meth c b L xs) (D : va_G) (dT : Nat → ClassId) (hK : z_K D dT s) (vv rg li : Nat) (mm : Nat → Nat) (k9 : Nat) (hk9 : 6 * k9 + 6 ≤ L) (H : Heap) (locs : List Loc) (cells slots : Nat) (ls : Array Slot) (hl : lv_has ls 4 [(3, .int (nI (6 * k9))), (2, .ref (mm 0)), (1, .ref vv), (0, .ref b)]) (hS : va_S (fun q => s.heap.size ≤ q) s.heap H locs) (hI : lI D dT s.heap.size vv rg li mm H) (hc : cells + 5 ≤ 600000) (hs : slots + 3100 ≤ 7302250) (kk : ∀ (H : Heap) (locs : List Loc) (ls : Array Slot), lv_has ls 4 [(3, .int (nI (6 * k9))), (2, .ref (mm 0)), (1, .ref vv), (0, .ref b)] → va_S (fun q => s.heap.size ≤ q) s.heap H locs → lI D dT s.heap.size vv rg li mm H → W p l e room_1 s m #[Value.ref b] below meth c H locs (cells + 5) (slots + 3100) (lw_Z below #[Value.ref b] s) (F0 m 1170 ls [])) : W p l e room_1 s m #[Value.ref b] below meth c H locs (cells) (slots) (lw_Z below #[Value.ref b] s) (F0 m 301 ls []) := by
  obtain ⟨hx, hb, hr, hml, hown, hts, hX, hbl, hlocks, hgv⟩ := C0
  have hown : s.vm.findClass "ValueTreesLaw" = some m.cls := hown
  have ht : ∀ w ∈ gt, w.before #[Value.ref b] s = true := fun w h => hts w (gt_in h)
  have hbA : ¬ (fun q => s.heap.size ≤ q) b := Nat.not_le.mpr hbl
  obtain ⟨B, ed, tb, tc, RV, hC, hm, hmm, hrg0, hli0, hed0⟩ := hI
  have hV := mI_vOK hm
  refine lv_aload_n hx hb d_L_301 rfl (lv_at hl 2 rfl) ?_
  refine lv_aload_n hx hb d_L_302 rfl (lv_at hl 3 rfl) ?_
  refine lv_iload_n hx hb d_L_303 rfl (lv_at hl 0 rfl) ?_
  refine lv_iconst (v := 1) hx hb d_L_304 (by decide) ?_
  refine lv_iadd hx hb d_L_305 ?_
  rw [show (((nI (6 * k9)) + 1) : Int32) = nI ((6 * k9) + 1) from nI_add (6 * k9) 1]
  refine z_sld hx hb hX hbl hbA hS ((6 * k9) + 1) rfl (by omega) hL d_L_306 ?_
  refine lv_aload_n hx hb d_L_307 rfl (lv_at hl 3 rfl) ?_
  refine lv_iload_n hx hb d_L_308 rfl (lv_at hl 0 rfl) ?_
  refine lv_iconst (v := 2) hx hb d_L_309 (by decide) ?_
  refine lv_iadd hx hb d_L_310 ?_
  rw [show (((nI (6 * k9)) + 2) : Int32) = nI ((6 * k9) + 2) from nI_add (6 * k9) 2]
  refine z_sld hx hb hX hbl hbA hS ((6 * k9) + 2) rfl (by omega) hL d_L_311 ?_
  refine lv_aload_n hx hb d_L_312 rfl (lv_at hl 3 rfl) ?_
  refine lv_iload_n hx hb d_L_313 rfl (lv_at hl 0 rfl) ?_
  refine lv_iconst (v := 3) hx hb d_L_314 (by decide) ?_
  refine lv_iadd hx hb d_L_315 ?_
  rw [show (((nI (6 * k9)) + 3) : Int32) = nI ((6 * k9) + 3) from nI_add (6 * k9) 3]
  refine z_sld hx hb hX hbl hbA hS ((6 * k9) + 3) rfl (by omega) hL d_L_316 ?_
  have hSp := hS
  have hlt9 := fun (k : Nat) (hk : k < 10) => mI_lt hm hk
  refine z_callQ (va_runV (C := "ValueTrees") (As := [.int (xs ((6 * k9) + 1)), .int (xs ((6 * k9) + 2)), .int (xs ((6 * k9) + 3))]) (rest := []) ⟨hx, hb, hml, hown, hts⟩ (p_V_times l D dT _ B vv rg li ed tb tc RV hC hV (xs ((6 * k9) + 1)) (xs ((6 * k9) + 2)) (xs ((6 * k9) + 3))) ⟨callB_of 3 hts (gI gd_lw gd_l q271) rfl rfl rfl (ht _ q1) (ht _ q268) hd_V_times ⟨Nat.le_of_ble_eq_true rfl, Nat.le_of_ble_eq_true rfl⟩, ht _ q269, ht _ q270⟩ (z_preV hK (va_recv hK.1 (z_1 hC.2.1) (ci := 0) (q0 := 0) rfl rfl)) rfl rfl hl.1 rfl (lv_room (Nat.le_of_ble_eq_true rfl)) d_L_317 ⟨by show cells + 2 ≤ 600000; omega, by show slots + 69 ≤ 7302250; omega⟩) hS (fun q9 h9 => h9.elim (fun e9 => by rw [e9]; exact hrg0) (fun h8 => Nat.le_trans hSp.1 h8)) (fun v2 H locs hv1 hz3 hf4 hS => ?_)
  obtain ⟨rfl, hC⟩ := hv1
  have hm := hm.keep (fun k hk => hf4 _ (hlt9 k hk) (fun h9 => h9.elim (hmm k hk).2.1 (Nat.not_le.mpr (hlt9 k hk))))
  refine W.eq (g2 := F0 m 320 ls [.int ((kp RV (xs ((6 * k9) + 1)) (o_times RV (xs ((6 * k9) + 2)) (xs ((6 * k9) + 3)))).1)]) rfl ?_
  refine lv_aload_n hx hb d_L_320 rfl (lv_at hl 1 rfl) ?_
  refine lv_aload_n hx hb d_L_321 rfl (lv_at hl 3 rfl) ?_
  refine lv_iload_n hx hb d_L_322 rfl (lv_at hl 0 rfl) ?_
  refine lv_iconst (v := 1) hx hb d_L_323 (by decide) ?_
  refine lv_iadd hx hb d_L_324 ?_
  rw [show (((nI (6 * k9)) + 1) : Int32) = nI ((6 * k9) + 1) from nI_add (6 * k9) 1]
  refine z_sld hx hb hX hbl hbA hS ((6 * k9) + 1) rfl (by omega) hL d_L_325 ?_
  refine lv_aload_n hx hb d_L_326 rfl (lv_at hl 3 rfl) ?_
  refine lv_iload_n hx hb d_L_327 rfl (lv_at hl 0 rfl) ?_
  refine lv_iconst (v := 2) hx hb d_L_328 (by decide) ?_
  refine lv_iadd hx hb d_L_329 ?_
  rw [show (((nI (6 * k9)) + 2) : Int32) = nI ((6 * k9) + 2) from nI_add (6 * k9) 2]
  refine z_sld hx hb hX hbl hbA hS ((6 * k9) + 2) rfl (by omega) hL d_L_330 ?_
  refine lv_aload_n hx hb d_L_331 rfl (lv_at hl 3 rfl) ?_
  refine lv_iload_n hx hb d_L_332 rfl (lv_at hl 0 rfl) ?_
  refine lv_iconst (v := 3) hx hb d_L_333 (by decide) ?_
  refine lv_iadd hx hb d_L_334 ?_
  rw [show (((nI (6 * k9)) + 3) : Int32) = nI ((6 * k9) + 3) from nI_add (6 * k9) 3]
  refine z_sld hx hb hX hbl hbA hS ((6 * k9) + 3) rfl (by omega) hL d_L_335 ?_
  obtain ⟨fs9, hmo⟩ := mI_obj hm
  refine z_callQ (va_runV (C := "ValueTreesModel") (As := [.int (xs ((6 * k9) + 1)), .int (xs ((6 * k9) + 2)), .int (xs ((6 * k9) + 3))]) (rest := [.int ((kp RV (xs ((6 * k9) + 1)) (o_times RV (xs ((6 * k9) + 2)) (xs ((6 * k9) + 3)))).1)]) ⟨hx, hb, hml, hown, hts⟩ (p_M_times l D dT _ mm tb tc RV hm (xs ((6 * k9) + 1)) (xs ((6 * k9) + 2)) (xs ((6 * k9) + 3))) ⟨callB_of 3 hts (gI gd_lw gd_l q654) rfl rfl rfl (ht _ q10) (ht _ q651) hd_M_times ⟨Nat.le_of_ble_eq_true rfl, Nat.le_of_ble_eq_true rfl⟩, ht _ q652, ht _ q653⟩ (z_preV hK (z_recv hK hmo rfl)) rfl rfl hl.1 rfl (lv_room (Nat.le_of_ble_eq_true rfl)) d_L_336 ⟨by show cells + 2 + 0 ≤ 600000; omega, by show slots + 69 + 0 ≤ 7302250; omega⟩) hS (fun q9 h9 => by obtain ⟨k, hk, e9⟩ := h9; rw [e9]; exact (hmm k hk).2.2.2.2) (fun v6 H locs hv5 hz7 hf8 hS => ?_)
  obtain ⟨rfl, hm⟩ := hv5
  have hC := hC.keepM hz7 hf8 (fun k hk => (hmm k hk).1) (fun k hk => (hmm k hk).2.1) (fun k hk => (hmm k hk).2.2.1) (fun k hk => (hmm k hk).2.2.2.1)
  refine W.eq (g2 := F0 m 339 ls [.int ((kp RV (xs ((6 * k9) + 1)) (o_times RV (xs ((6 * k9) + 2)) (xs ((6 * k9) + 3)))).1), .int ((kp RV (xs ((6 * k9) + 1)) (o_times RV (xs ((6 * k9) + 2)) (xs ((6 * k9) + 3)))).1)]) rfl ?_
  refine lv_icmp_eq (tgt := 1170) hx hb d_L_339 (by decide) (fun _ => ?_) (fun h9 => absurd rfl h9)
  refine W.widen (k := cells + 5) (n := slots + 3100) (by omega) (by omega) ?_
  exact kk _ _ ls hl hS ⟨B, ed, _, _, _, hC, hm, hmm, hrg0, hli0, hed0⟩
