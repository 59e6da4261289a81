theorem d_L_900 : decode code 900 = .ok (.aload_n 1, 1) := by decide +kernel
theorem d_L_901 : decode code 901 = .ok (.aload_n 0, 1) := by decide +kernel
theorem d_L_902 : decode code 902 = .ok (.iload_n 3, 1) := by decide +kernel
theorem d_L_903 : decode code 903 = .ok (.iconst 1, 1) := by decide +kernel
theorem d_L_904 : decode code 904 = .ok (.iadd, 1) := by decide +kernel
theorem d_L_905 : decode code 905 = .ok (.iaload, 1) := by decide +kernel
theorem d_L_906 : decode code 906 = .ok (.invokevirtual 85, 3) := by decide +kernel
theorem d_L_909 : decode code 909 = .ok (.aload_n 2, 1) := by decide +kernel
theorem d_L_910 : decode code 910 = .ok (.aload_n 0, 1) := by decide +kernel
theorem d_L_911 : decode code 911 = .ok (.iload_n 3, 1) := by decide +kernel
theorem d_L_912 : decode code 912 = .ok (.iconst 1, 1) := by decide +kernel
theorem d_L_913 : decode code 913 = .ok (.iadd, 1) := by decide +kernel
theorem d_L_914 : decode code 914 = .ok (.iaload, 1) := by decide +kernel
theorem d_L_915 : decode code 915 = .ok (.invokevirtual 89, 3) := by decide +kernel
theorem d_L_918 : decode code 918 = .ok (.if_icmp .eq 252, 3) := by decide +kernel
theorem d_L_921 : decode code 921 = .ok (.iconst 0, 1) := by decide +kernel
theorem d_L_922 : decode code 922 = .ok (.ireturn, 1) := by decide +kernel
set_option maxHeartbeats 4000000 in
set_option maxRecDepth 100000 in
theorem law_c16 (l : Launch) {p : Program} {e : Env} {s : State} {m : MethodId} {below : List Frame} {meth : Method} {c : Code} {b L : Nat} {xs : Nat → Int32} (hL : L ≤ 3072) (C0 : lw_At p s m meth c b L xs) (D : va_G) (dT : Nat → ClassId) (hK : z_K D dT s) (vv rg li : Nat) (mm : Nat → Nat) (k9 : Nat) (hk9 : 6 * k9 + 6 ≤ L) (H : Heap) (locs : List Loc) (cells slots : Nat) (ls : Array Slot) (hl : lv_has ls 4 [(3, .int (nI (6 * k9))), (2, .ref (mm 0)), (1, .ref vv), (0, .ref b)]) (hS : va_S (fun q => s.heap.size ≤ q) s.heap H locs) (hI : lI D dT s.heap.size vv rg li mm H) (hc : cells + 5 ≤ 600000) (hs : slots + 3100 ≤ 7302250) (kk : ∀ (H : Heap) (locs : List Loc) (ls : Array Slot), lv_has ls 4 [(3, .int (nI (6 * k9))), (2, .ref (mm 0)), (1, .ref vv), (0, .ref b)] → va_S (fun q => s.heap.size ≤ q) s.heap H locs → lI D dT s.heap.size vv rg li mm H → W p l e room_1 s m #[Value.ref b] below meth c H locs (cells + 5) (slots + 3100) (lw_Z below #[Value.ref b] s) (F0 m 1170 ls [])) : W p l e room_1 s m #[Value.ref b] below meth c H locs (cells) (slots) (lw_Z below #[Value.ref b] s) (F0 m 900 ls []) := by
  obtain ⟨hx, hb, hr, hml, hown, hts, hX, hbl, hlocks, hgv⟩ := C0
  have hown : s.vm.findClass "ValueTreesLaw" = some m.cls := hown
  have ht : ∀ w ∈ gt, w.before #[Value.ref b] s = true := fun w h => hts w (gt_in h)
  have hbA : ¬ (fun q => s.heap.size ≤ q) b := Nat.not_le.mpr hbl
  obtain ⟨B, ed, tb, tc, RV, hC, hm, hmm, hrg0, hli0, hed0⟩ := hI
  have hV := mI_vOK hm
  refine lv_aload_n hx hb d_L_900 rfl (lv_at hl 2 rfl) ?_
  refine lv_aload_n hx hb d_L_901 rfl (lv_at hl 3 rfl) ?_
  refine lv_iload_n hx hb d_L_902 rfl (lv_at hl 0 rfl) ?_
  refine lv_iconst (v := 1) hx hb d_L_903 (by decide) ?_
  refine lv_iadd hx hb d_L_904 ?_
  rw [show (((nI (6 * k9)) + 1) : Int32) = nI ((6 * k9) + 1) from nI_add (6 * k9) 1]
  refine z_sld hx hb hX hbl hbA hS ((6 * k9) + 1) rfl (by omega) hL d_L_905 ?_
  have hSp := hS
  have hlt9 := fun (k : Nat) (hk : k < 10) => mI_lt hm hk
  refine z_callQ (va_runV (C := "ValueTrees") (As := [.int (xs ((6 * k9) + 1))]) (rest := []) ⟨hx, hb, hml, hown, hts⟩ (p_V_clear l D dT _ B vv rg li ed tb tc RV hC hV (xs ((6 * k9) + 1))) ⟨callB_of 1 hts (gI gd_lw gd_l q496) rfl rfl rfl (ht _ q1) (ht _ q493) hd_V_clear ⟨Nat.le_of_ble_eq_true rfl, Nat.le_of_ble_eq_true rfl⟩, ht _ q494, ht _ q495⟩ (z_preV hK (va_recv hK.1 (z_1 hC.2.1) (ci := 0) (q0 := 0) rfl rfl)) rfl rfl hl.1 rfl (lv_room (Nat.le_of_ble_eq_true rfl)) d_L_906 ⟨by show cells + 0 ≤ 600000; omega, by show slots + 0 ≤ 7302250; omega⟩) hS (fun q9 h9 => by rw [show q9 = rg from h9]; exact hrg0) (fun v2 H locs hv1 hz3 hf4 hS => ?_)
  obtain ⟨rfl, hC⟩ := hv1
  have hm := hm.keep (fun k hk => hf4 _ (hlt9 k hk) (hmm k hk).2.1)
  refine W.eq (g2 := F0 m 909 ls [.int (a_clear (xs ((6 * k9) + 1)))]) rfl ?_
  refine lv_aload_n hx hb d_L_909 rfl (lv_at hl 1 rfl) ?_
  refine lv_aload_n hx hb d_L_910 rfl (lv_at hl 3 rfl) ?_
  refine lv_iload_n hx hb d_L_911 rfl (lv_at hl 0 rfl) ?_
  refine lv_iconst (v := 1) hx hb d_L_912 (by decide) ?_
  refine lv_iadd hx hb d_L_913 ?_
  rw [show (((nI (6 * k9)) + 1) : Int32) = nI ((6 * k9) + 1) from nI_add (6 * k9) 1]
  refine z_sld hx hb hX hbl hbA hS ((6 * k9) + 1) rfl (by omega) hL d_L_914 ?_
  obtain ⟨fs9, hmo⟩ := mI_obj hm
  refine z_callQ (va_runV (C := "ValueTreesModel") (As := [.int (xs ((6 * k9) + 1))]) (rest := [.int (a_clear (xs ((6 * k9) + 1)))]) ⟨hx, hb, hml, hown, hts⟩ (p_M_clear l D dT _ mm tb tc RV hm (xs ((6 * k9) + 1))) ⟨callB_of 1 hts (gI gd_lw gd_l q806) rfl rfl rfl (ht _ q10) (ht _ q803) hd_M_clear ⟨Nat.le_of_ble_eq_true rfl, Nat.le_of_ble_eq_true rfl⟩, ht _ q804, ht _ q805⟩ (z_preV hK (z_recv hK hmo rfl)) rfl rfl hl.1 rfl (lv_room (Nat.le_of_ble_eq_true rfl)) d_L_915 ⟨by show cells + 0 + 0 ≤ 600000; omega, by show slots + 0 + 0 ≤ 7302250; omega⟩) hS (fun q9 h9 => by obtain ⟨k, hk, e9⟩ := h9; rw [e9]; exact (hmm k hk).2.2.2.2) (fun v6 H locs hv5 hz7 hf8 hS => ?_)
  obtain ⟨rfl, hm⟩ := hv5
  have hC := hC.keepM hz7 hf8 (fun k hk => (hmm k hk).1) (fun k hk => (hmm k hk).2.1) (fun k hk => (hmm k hk).2.2.1) (fun k hk => (hmm k hk).2.2.2.1)
  refine W.eq (g2 := F0 m 918 ls [.int (a_clear (xs ((6 * k9) + 1))), .int (a_clear (xs ((6 * k9) + 1)))]) rfl ?_
  refine lv_icmp_eq (tgt := 1170) hx hb d_L_918 (by decide) (fun _ => ?_) (fun h9 => absurd rfl h9)
  refine W.widen (k := cells + 5) (n := slots + 3100) (by omega) (by omega) ?_
  exact kk _ _ ls hl hS ⟨B, ed, _, _, _, hC, hm, hmm, hrg0, hli0, hed0⟩
theorem d_L_923 : decode code 923 = .ok (.aload_n 1, 1) := by decide +kernel
theorem d_L_924 : decode code 924 = .ok (.aload_n 0, 1) := by decide +kernel
theorem d_L_925 : decode code 925 = .ok (.iload_n 3, 1) := by decide +kernel
theorem d_L_926 : decode code 926 = .ok (.iconst 1, 1) := by decide +kernel
theorem d_L_927 : decode code 927 = .ok (.iadd, 1) := by decide +kernel
theorem d_L_928 : decode code 928 = .ok (.iaload, 1) := by decide +kernel
theorem d_L_929 : decode code 929 = .ok (.invokevirtual 90, 3) := by decide +kernel
theorem d_L_932 : decode code 932 = .ok (.aload_n 2, 1) := by decide +kernel
theorem d_L_933 : decode code 933 = .ok (.aload_n 0, 1) := by decide +kernel
theorem d_L_934 : decode code 934 = .ok (.iload_n 3, 1) := by decide +kernel
theorem d_L_935 : decode code 935 = .ok (.iconst 1, 1) := by decide +kernel
theorem d_L_936 : decode code 936 = .ok (.iadd, 1) := by decide +kernel
theorem d_L_937 : decode code 937 = .ok (.iaload, 1) := by decide +kernel
theorem d_L_938 : decode code 938 = .ok (.invokevirtual 94, 3) := by decide +kernel
theorem d_L_941 : decode code 941 = .ok (.if_icmp .eq 229, 3) := by decide +kernel
theorem d_L_944 : decode code 944 = .ok (.iconst 0, 1) := by decide +kernel
theorem d_L_945 : decode code 945 = .ok (.ireturn, 1) := by decide +kernel
set_option maxHeartbeats 4000000 in
set_option maxRecDepth 100000 in
theorem law_c17 (l : Launch) {p : Program} {e : Env} {s : State} {m : MethodId} {below : List Frame} {meth : Method} {c : Code} {b L : Nat} {xs : Nat → Int32} (hL : L ≤ 3072) (C0 : lw_At p s m meth c b L xs) (D : va_G) (dT : Nat → ClassId) (hK : z_K D dT s) (vv rg li : Nat) (mm : Nat → Nat) (k9 : Nat) (hk9 : 6 * k9 + 6 ≤ L) (H : Heap) (locs : List Loc) (cells slots : Nat) (ls : Array Slot) (hl : lv_has ls 4 [(3, .int (nI (6 * k9))), (2, .ref (mm 0)), (1, .ref vv), (0, .ref b)]) (hS : va_S (fun q => s.heap.size ≤ q) s.heap H locs) (hI : lI D dT s.heap.size vv rg li mm H) (hc : cells + 5 ≤ 600000) (hs : slots + 3100 ≤ 7302250) (kk : ∀ (H : Heap) (locs : List Loc) (ls : Array Slot), lv_has ls 4 [(3, .int (nI (6 * k9))), (2, .ref (mm 0)), (1, .ref vv), (0, .ref b)] → va_S (fun q => s.heap.size ≤ q) s.heap H locs → lI D dT s.heap.size vv rg li mm H → W p l e room_1 s m #[Value.ref b] below meth c H locs (cells + 5) (slots + 3100) (lw_Z below #[Value.ref b] s) (F0 m 1170 ls [])) : W p l e room_1 s m #[Value.ref b] below meth c H locs (cells) (slots) (lw_Z below #[Value.ref b] s) (F0 m 923 ls []) := by
  obtain ⟨hx, hb, hr, hml, hown, hts, hX, hbl, hlocks, hgv⟩ := C0
  have hown : s.vm.findClass "ValueTreesLaw" = some m.cls := hown
  have ht : ∀ w ∈ gt, w.before #[Value.ref b] s = true := fun w h => hts w (gt_in h)
  have hbA : ¬ (fun q => s.heap.size ≤ q) b := Nat.not_le.mpr hbl
  obtain ⟨B, ed, tb, tc, RV, hC, hm, hmm, hrg0, hli0, hed0⟩ := hI
  have hV := mI_vOK hm
  refine lv_aload_n hx hb d_L_923 rfl (lv_at hl 2 rfl) ?_
  refine lv_aload_n hx hb d_L_924 rfl (lv_at hl 3 rfl) ?_
  refine lv_iload_n hx hb d_L_925 rfl (lv_at hl 0 rfl) ?_
  refine lv_iconst (v := 1) hx hb d_L_926 (by decide) ?_
  refine lv_iadd hx hb d_L_927 ?_
  rw [show (((nI (6 * k9)) + 1) : Int32) = nI ((6 * k9) + 1) from nI_add (6 * k9) 1]
  refine z_sld hx hb hX hbl hbA hS ((6 * k9) + 1) rfl (by omega) hL d_L_928 ?_
  have hSp := hS
  have hlt9 := fun (k : Nat) (hk : k < 10) => mI_lt hm hk
  refine z_callR (va_runV (C := "ValueTrees") (As := [.int (xs ((6 * k9) + 1))]) (rest := []) ⟨hx, hb, hml, hown, hts⟩ (p_V_typeOf l D dT _ B vv rg li ed tb tc RV hC hV (xs ((6 * k9) + 1))) ⟨callB_of 1 hts (gI gd_lw gd_l q500) rfl rfl rfl (ht _ q1) (ht _ q497) hd_V_typeOf ⟨Nat.le_of_ble_eq_true rfl, Nat.le_of_ble_eq_true rfl⟩, ht _ q498, ht _ q499⟩ (z_preV hK (va_recv hK.1 (z_1 hC.2.1) (ci := 0) (q0 := 0) rfl rfl)) rfl rfl hl.1 rfl (lv_room (Nat.le_of_ble_eq_true rfl)) d_L_929 ⟨by show cells + 0 ≤ 600000; omega, by show slots + 0 ≤ 7302250; omega⟩) (fun v2 hv1 => ?_)
  subst hv1
  refine lv_aload_n hx hb d_L_932 rfl (lv_at hl 1 rfl) ?_
  refine lv_aload_n hx hb d_L_933 rfl (lv_at hl 3 rfl) ?_
  refine lv_iload_n hx hb d_L_934 rfl (lv_at hl 0 rfl) ?_
  refine lv_iconst (v := 1) hx hb d_L_935 (by decide) ?_
  refine lv_iadd hx hb d_L_936 ?_
  rw [show (((nI (6 * k9)) + 1) : Int32) = nI ((6 * k9) + 1) from nI_add (6 * k9) 1]
  refine z_sld hx hb hX hbl hbA hS ((6 * k9) + 1) rfl (by omega) hL d_L_937 ?_
  obtain ⟨fs9, hmo⟩ := mI_obj hm
  refine z_callR (va_runV (C := "ValueTreesModel") (As := [.int (xs ((6 * k9) + 1))]) (rest := [.int (a_typeOf RV (xs ((6 * k9) + 1)))]) ⟨hx, hb, hml, hown, hts⟩ (p_M_typeOf l D dT _ mm tb tc RV hm (xs ((6 * k9) + 1))) ⟨callB_of 1 hts (gI gd_lw gd_l q810) rfl rfl rfl (ht _ q10) (ht _ q807) hd_M_typeOf ⟨Nat.le_of_ble_eq_true rfl, Nat.le_of_ble_eq_true rfl⟩, ht _ q808, ht _ q809⟩ (z_preV hK (z_recv hK hmo rfl)) rfl rfl hl.1 rfl (lv_room (Nat.le_of_ble_eq_true rfl)) d_L_938 ⟨by show cells + 0 ≤ 600000; omega, by show slots + 0 ≤ 7302250; omega⟩) (fun v4 hv3 => ?_)
  subst hv3
  refine lv_icmp_eq (tgt := 1170) hx hb d_L_941 (by decide) (fun _ => ?_) (fun h9 => absurd rfl h9)
  refine W.widen (k := cells + 5) (n := slots + 3100) (by omega) (by omega) ?_
  exact kk _ _ ls hl hS ⟨B, ed, _, _, _, hC, hm, hmm, hrg0, hli0, hed0⟩
theorem d_L_946 : decode code 946 = .ok (.aload_n 1, 1) := by decide +kernel
theorem d_L_947 : decode code 947 = .ok (.aload_n 0, 1) := by decide +kernel
theorem d_L_948 : decode code 948 = .ok (.iload_n 3, 1) := by decide +kernel
theorem d_L_949 : decode code 949 = .ok (.iconst 1, 1) := by decide +kernel
theorem d_L_950 : decode code 950 = .ok (.iadd, 1) := by decide +kernel
theorem d_L_951 : decode code 951 = .ok (.iaload, 1) := by decide +kernel
theorem d_L_952 : decode code 952 = .ok (.invokevirtual 95, 3) := by decide +kernel
theorem d_L_955 : decode code 955 = .ok (.aload_n 2, 1) := by decide +kernel
theorem d_L_956 : decode code 956 = .ok (.aload_n 0, 1) := by decide +kernel
theorem d_L_957 : decode code 957 = .ok (.iload_n 3, 1) := by decide +kernel
theorem d_L_958 : decode code 958 = .ok (.iconst 1, 1) := by decide +kernel
theorem d_L_959 : decode code 959 = .ok (.iadd, 1) := by decide +kernel
theorem d_L_960 : decode code 960 = .ok (.iaload, 1) := by decide +kernel
theorem d_L_961 : decode code 961 = .ok (.invokevirtual 98, 3) := by decide +kernel
theorem d_L_964 : decode code 964 = .ok (.if_icmp .eq 206, 3) := by decide +kernel
theorem d_L_967 : decode code 967 = .ok (.iconst 0, 1) := by decide +kernel
theorem d_L_968 : decode code 968 = .ok (.ireturn, 1) := by decide +kernel
set_option maxHeartbeats 4000000 in
set_option maxRecDepth 100000 in
theorem law_c18 (l : Launch) {p : Program} {e : Env} {s : State} {m : MethodId} {below : List Frame} {meth : Method} {c : Code} {b L : Nat} {xs : Nat → Int32} (hL : L ≤ 3072) (C0 : lw_At p s m meth c b L xs) (D : va_G) (dT : Nat → ClassId) (hK : z_K D dT s) (vv rg li : Nat) (mm : Nat → Nat) (k9 : Nat) (hk9 : 6 * k9 + 6 ≤ L) (H : Heap) (locs : List Loc) (cells slots : Nat) (ls : Array Slot) (hl : lv_has ls 4 [(3, .int (nI (6 * k9))), (2, .ref (mm 0)), (1, .ref vv), (0, .ref b)]) (hS : va_S (fun q => s.heap.size ≤ q) s.heap H locs) (hI : lI D dT s.heap.size vv rg li mm H) (hc : cells + 5 ≤ 600000) (hs : slots + 3100 ≤ 7302250) (kk : ∀ (H : Heap) (locs : List Loc) (ls : Array Slot), lv_has ls 4 [(3, .int (nI (6 * k9))), (2, .ref (mm 0)), (1, .ref vv), (0, .ref b)] → va_S (fun q => s.heap.size ≤ q) s.heap H locs → lI D dT s.heap.size vv rg li mm H → W p l e room_1 s m #[Value.ref b] below meth c H locs (cells + 5) (slots + 3100) (lw_Z below #[Value.ref b] s) (F0 m 1170 ls [])) : W p l e room_1 s m #[Value.ref b] below meth c H locs (cells) (slots) (lw_Z below #[Value.ref b] s) (F0 m 946 ls []) := by
  obtain ⟨hx, hb, hr, hml, hown, hts, hX, hbl, hlocks, hgv⟩ := C0
  have hown : s.vm.findClass "ValueTreesLaw" = some m.cls := hown
  have ht : ∀ w ∈ gt, w.before #[Value.ref b] s = true := fun w h => hts w (gt_in h)
  have hbA : ¬ (fun q => s.heap.size ≤ q) b := Nat.not_le.mpr hbl
  obtain ⟨B, ed, tb, tc, RV, hC, hm, hmm, hrg0, hli0, hed0⟩ := hI
  have hV := mI_vOK hm
  refine lv_aload_n hx hb d_L_946 rfl (lv_at hl 2 rfl) ?_
  refine lv_aload_n hx hb d_L_947 rfl (lv_at hl 3 rfl) ?_
  refine lv_iload_n hx hb d_L_948 rfl (lv_at hl 0 rfl) ?_
  refine lv_iconst (v := 1) hx hb d_L_949 (by decide) ?_
  refine lv_iadd hx hb d_L_950 ?_
  rw [show (((nI (6 * k9)) + 1) : Int32) = nI ((6 * k9) + 1) from nI_add (6 * k9) 1]
  refine z_sld hx hb hX hbl hbA hS ((6 * k9) + 1) rfl (by omega) hL d_L_951 ?_
  have hSp := hS
  have hlt9 := fun (k : Nat) (hk : k < 10) => mI_lt hm hk
  refine z_callR (va_runV (C := "ValueTrees") (As := [.int (xs ((6 * k9) + 1))]) (rest := []) ⟨hx, hb, hml, hown, hts⟩ (p_V_length l D dT _ B vv rg li ed tb tc RV hC hV (xs ((6 * k9) + 1))) ⟨callB_of 1 hts (gI gd_lw gd_l q504) rfl rfl rfl (ht _ q1) (ht _ q501) hd_V_length ⟨Nat.le_of_ble_eq_true rfl, Nat.le_of_ble_eq_true rfl⟩, ht _ q502, ht _ q503⟩ (z_preV hK (va_recv hK.1 (z_1 hC.2.1) (ci := 0) (q0 := 0) rfl rfl)) rfl rfl hl.1 rfl (lv_room (Nat.le_of_ble_eq_true rfl)) d_L_952 ⟨by show cells + 0 ≤ 600000; omega, by show slots + 0 ≤ 7302250; omega⟩) (fun v2 hv1 => ?_)
  subst hv1
  refine lv_aload_n hx hb d_L_955 rfl (lv_at hl 1 rfl) ?_
  refine lv_aload_n hx hb d_L_956 rfl (lv_at hl 3 rfl) ?_
  refine lv_iload_n hx hb d_L_957 rfl (lv_at hl 0 rfl) ?_
  refine lv_iconst (v := 1) hx hb d_L_958 (by decide) ?_
  refine lv_iadd hx hb d_L_959 ?_
  rw [show (((nI (6 * k9)) + 1) : Int32) = nI ((6 * k9) + 1) from nI_add (6 * k9) 1]
  refine z_sld hx hb hX hbl hbA hS ((6 * k9) + 1) rfl (by omega) hL d_L_960 ?_
  obtain ⟨fs9, hmo⟩ := mI_obj hm
  refine z_callR (va_runV (C := "ValueTreesModel") (As := [.int (xs ((6 * k9) + 1))]) (rest := [.int (a_length RV (xs ((6 * k9) + 1)))]) ⟨hx, hb, hml, hown, hts⟩ (p_M_length l D dT _ mm tb tc RV hm (xs ((6 * k9) + 1))) ⟨callB_of 1 hts (gI gd_lw gd_l q814) rfl rfl rfl (ht _ q10) (ht _ q811) hd_M_length ⟨Nat.le_of_ble_eq_true rfl, Nat.le_of_ble_eq_true rfl⟩, ht _ q812, ht _ q813⟩ (z_preV hK (z_recv hK hmo rfl)) rfl rfl hl.1 rfl (lv_room (Nat.le_of_ble_eq_true rfl)) d_L_961 ⟨by show cells + 0 ≤ 600000; omega, by show slots + 0 ≤ 7302250; omega⟩) (fun v4 hv3 => ?_)
  subst hv3
  refine lv_icmp_eq (tgt := 1170) hx hb d_L_964 (by decide) (fun _ => ?_) (fun h9 => absurd rfl h9)
  refine W.widen (k := cells + 5) (n := slots + 3100) (by omega) (by omega) ?_
  exact kk _ _ ls hl hS ⟨B, ed, _, _, _, hC, hm, hmm, hrg0, hli0, hed0⟩
theorem d_L_969 : decode code 969 = .ok (.aload_n 1, 1) := by decide +kernel
theorem d_L_970 : decode code 970 = .ok (.aload_n 0, 1) := by decide +kernel
theorem d_L_971 : decode code 971 = .ok (.iload_n 3, 1) := by decide +kernel
theorem d_L_972 : decode code 972 = .ok (.iconst 1, 1) := by decide +kernel
theorem d_L_973 : decode code 973 = .ok (.iadd, 1) := by decide +kernel
theorem d_L_974 : decode code 974 = .ok (.iaload, 1) := by decide +kernel
theorem d_L_975 : decode code 975 = .ok (.invokevirtual 99, 3) := by decide +kernel
theorem d_L_978 : decode code 978 = .ok (.aload_n 2, 1) := by decide +kernel
theorem d_L_979 : decode code 979 = .ok (.aload_n 0, 1) := by decide +kernel
theorem d_L_980 : decode code 980 = .ok (.iload_n 3, 1) := by decide +kernel
theorem d_L_981 : decode code 981 = .ok (.iconst 1, 1) := by decide +kernel
theorem d_L_982 : decode code 982 = .ok (.iadd, 1) := by decide +kernel
theorem d_L_983 : decode code 983 = .ok (.iaload, 1) := by decide +kernel
theorem d_L_984 : decode code 984 = .ok (.invokevirtual 102, 3) := by decide +kernel
theorem d_L_987 : decode code 987 = .ok (.if_icmp .eq 183, 3) := by decide +kernel
theorem d_L_990 : decode code 990 = .ok (.iconst 0, 1) := by decide +kernel
theorem d_L_991 : decode code 991 = .ok (.ireturn, 1) := by decide +kernel
set_option maxHeartbeats 4000000 in
set_option maxRecDepth 100000 in
theorem law_c19 (l : Launch) {p : Program} {e : Env} {s : State} {m : MethodId} {below : List Frame} {meth : Method} {c : Code} {b L : Nat} {xs : Nat → Int32} (hL : L ≤ 3072) (C0 : lw_At p s m meth c b L xs) (D : va_G) (dT : Nat → ClassId) (hK : z_K D dT s) (vv rg li : Nat) (mm : Nat → Nat) (k9 : Nat) (hk9 : 6 * k9 + 6 ≤ L) (H : Heap) (locs : List Loc) (cells slots : Nat) (ls : Array Slot) (hl : lv_has ls 4 [(3, .int (nI (6 * k9))), (2, .ref (mm 0)), (1, .ref vv), (0, .ref b)]) (hS : va_S (fun q => s.heap.size ≤ q) s.heap H locs) (hI : lI D dT s.heap.size vv rg li mm H) (hc : cells + 5 ≤ 600000) (hs : slots + 3100 ≤ 7302250) (kk : ∀ (H : Heap) (locs : List Loc) (ls : Array Slot), lv_has ls 4 [(3, .int (nI (6 * k9))), (2, .ref (mm 0)), (1, .ref vv), (0, .ref b)] → va_S (fun q => s.heap.size ≤ q) s.heap H locs → lI D dT s.heap.size vv rg li mm H → W p l e room_1 s m #[Value.ref b] below meth c H locs (cells + 5) (slots + 3100) (lw_Z below #[Value.ref b] s) (F0 m 1170 ls [])) : W p l e room_1 s m #[Value.ref b] below meth c H locs (cells) (slots) (lw_Z below #[Value.ref b] s) (F0 m 969 ls []) := by
  obtain ⟨hx, hb, hr, hml, hown, hts, hX, hbl, hlocks, hgv⟩ := C0
  have hown : s.vm.findClass "ValueTreesLaw" = some m.cls := hown
  have ht : ∀ w ∈ gt, w.before #[Value.ref b] s = true := fun w h => hts w (gt_in h)
  have hbA : ¬ (fun q => s.heap.size ≤ q) b := Nat.not_le.mpr hbl
  obtain ⟨B, ed, tb, tc, RV, hC, hm, hmm, hrg0, hli0, hed0⟩ := hI
  have hV := mI_vOK hm
  refine lv_aload_n hx hb d_L_969 rfl (lv_at hl 2 rfl) ?_
  refine lv_aload_n hx hb d_L_970 rfl (lv_at hl 3 rfl) ?_
  refine lv_iload_n hx hb d_L_971 rfl (lv_at hl 0 rfl) ?_
  refine lv_iconst (v := 1) hx hb d_L_972 (by decide) ?_
  refine lv_iadd hx hb d_L_973 ?_
  rw [show (((nI (6 * k9)) + 1) : Int32) = nI ((6 * k9) + 1) from nI_add (6 * k9) 1]
  refine z_sld hx hb hX hbl hbA hS ((6 * k9) + 1) rfl (by omega) hL d_L_974 ?_
  have hSp := hS
  have hlt9 := fun (k : Nat) (hk : k < 10) => mI_lt hm hk
  refine z_callR (va_runV (C := "ValueTrees") (As := [.int (xs ((6 * k9) + 1))]) (rest := []) ⟨hx, hb, hml, hown, hts⟩ (p_V_which l D dT _ B vv rg li ed tb tc RV hC hV (xs ((6 * k9) + 1))) ⟨callB_of 1 hts (gI gd_lw gd_l q508) rfl rfl rfl (ht _ q1) (ht _ q505) hd_V_which ⟨Nat.le_of_ble_eq_true rfl, Nat.le_of_ble_eq_true rfl⟩, ht _ q506, ht _ q507⟩ (z_preV hK (va_recv hK.1 (z_1 hC.2.1) (ci := 0) (q0 := 0) rfl rfl)) rfl rfl hl.1 rfl (lv_room (Nat.le_of_ble_eq_true rfl)) d_L_975 ⟨by show cells + 0 ≤ 600000; omega, by show slots + 0 ≤ 7302250; omega⟩) (fun v2 hv1 => ?_)
  subst hv1
  refine lv_aload_n hx hb d_L_978 rfl (lv_at hl 1 rfl) ?_
  refine lv_aload_n hx hb d_L_979 rfl (lv_at hl 3 rfl) ?_
  refine lv_iload_n hx hb d_L_980 rfl (lv_at hl 0 rfl) ?_
  refine lv_iconst (v := 1) hx hb d_L_981 (by decide) ?_
  refine lv_iadd hx hb d_L_982 ?_
  rw [show (((nI (6 * k9)) + 1) : Int32) = nI ((6 * k9) + 1) from nI_add (6 * k9) 1]
  refine z_sld hx hb hX hbl hbA hS ((6 * k9) + 1) rfl (by omega) hL d_L_983 ?_
  obtain ⟨fs9, hmo⟩ := mI_obj hm
  refine z_callR (va_runV (C := "ValueTreesModel") (As := [.int (xs ((6 * k9) + 1))]) (rest := [.int (a_which RV (xs ((6 * k9) + 1)))]) ⟨hx, hb, hml, hown, hts⟩ (p_M_which l D dT _ mm tb tc RV hm (xs ((6 * k9) + 1))) ⟨callB_of 1 hts (gI gd_lw gd_l q818) rfl rfl rfl (ht _ q10) (ht _ q815) hd_M_which ⟨Nat.le_of_ble_eq_true rfl, Nat.le_of_ble_eq_true rfl⟩, ht _ q816, ht _ q817⟩ (z_preV hK (z_recv hK hmo rfl)) rfl rfl hl.1 rfl (lv_room (Nat.le_of_ble_eq_true rfl)) d_L_984 ⟨by show cells + 0 ≤ 600000; omega, by show slots + 0 ≤ 7302250; omega⟩) (fun v4 hv3 => ?_)
  subst hv3
  refine lv_icmp_eq (tgt := 1170) hx hb d_L_987 (by decide) (fun _ => ?_) (fun h9 => absurd rfl h9)
  refine W.widen (k := cells + 5) (n := slots + 3100) (by omega) (by omega) ?_
  exact kk _ _ ls hl hS ⟨B, ed, _, _, _, hC, hm, hmm, hrg0, hli0, hed0⟩
