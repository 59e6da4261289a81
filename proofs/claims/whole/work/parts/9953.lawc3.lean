theorem d_L_728 : decode code 728 = .ok (.aload_n 1, 1) := by decide +kernel
theorem d_L_729 : decode code 729 = .ok (.aload_n 0, 1) := by decide +kernel
theorem d_L_730 : decode code 730 = .ok (.iload_n 3, 1) := by decide +kernel
theorem d_L_731 : decode code 731 = .ok (.iconst 1, 1) := by decide +kernel
theorem d_L_732 : decode code 732 = .ok (.iadd, 1) := by decide +kernel
theorem d_L_733 : decode code 733 = .ok (.iaload, 1) := by decide +kernel
theorem d_L_734 : decode code 734 = .ok (.aload_n 0, 1) := by decide +kernel
theorem d_L_735 : decode code 735 = .ok (.iload_n 3, 1) := by decide +kernel
theorem d_L_736 : decode code 736 = .ok (.iconst 2, 1) := by decide +kernel
theorem d_L_737 : decode code 737 = .ok (.iadd, 1) := by decide +kernel
theorem d_L_738 : decode code 738 = .ok (.iaload, 1) := by decide +kernel
theorem d_L_739 : decode code 739 = .ok (.aload_n 0, 1) := by decide +kernel
theorem d_L_740 : decode code 740 = .ok (.iload_n 3, 1) := by decide +kernel
theorem d_L_741 : decode code 741 = .ok (.iconst 3, 1) := by decide +kernel
theorem d_L_742 : decode code 742 = .ok (.iadd, 1) := by decide +kernel
theorem d_L_743 : decode code 743 = .ok (.iaload, 1) := by decide +kernel
theorem d_L_744 : decode code 744 = .ok (.invokevirtual 68, 3) := by decide +kernel
theorem d_L_747 : decode code 747 = .ok (.aload_n 2, 1) := by decide +kernel
theorem d_L_748 : decode code 748 = .ok (.aload_n 0, 1) := by decide +kernel
theorem d_L_749 : decode code 749 = .ok (.iload_n 3, 1) := by decide +kernel
theorem d_L_750 : decode code 750 = .ok (.iconst 1, 1) := by decide +kernel
theorem d_L_751 : decode code 751 = .ok (.iadd, 1) := by decide +kernel
theorem d_L_752 : decode code 752 = .ok (.iaload, 1) := by decide +kernel
theorem d_L_753 : decode code 753 = .ok (.aload_n 0, 1) := by decide +kernel
theorem d_L_754 : decode code 754 = .ok (.iload_n 3, 1) := by decide +kernel
theorem d_L_755 : decode code 755 = .ok (.iconst 2, 1) := by decide +kernel
theorem d_L_756 : decode code 756 = .ok (.iadd, 1) := by decide +kernel
theorem d_L_757 : decode code 757 = .ok (.iaload, 1) := by decide +kernel
theorem d_L_758 : decode code 758 = .ok (.aload_n 0, 1) := by decide +kernel
theorem d_L_759 : decode code 759 = .ok (.iload_n 3, 1) := by decide +kernel
theorem d_L_760 : decode code 760 = .ok (.iconst 3, 1) := by decide +kernel
theorem d_L_761 : decode code 761 = .ok (.iadd, 1) := by decide +kernel
theorem d_L_762 : decode code 762 = .ok (.iaload, 1) := by decide +kernel
theorem d_L_763 : decode code 763 = .ok (.invokevirtual 71, 3) := by decide +kernel
theorem d_L_766 : decode code 766 = .ok (.if_icmp .eq 404, 3) := by decide +kernel
theorem d_L_769 : decode code 769 = .ok (.iconst 0, 1) := by decide +kernel
theorem d_L_770 : decode code 770 = .ok (.ireturn, 1) := by decide +kernel
set_option maxHeartbeats 4000000 in
set_option maxRecDepth 100000 in
theorem law_c12 (l : Launch) {p : Program} {e : Env} {s : State} {m : MethodId} {below : List Frame} {meth : Method} {c : Code} {b L : Nat} {xs : Nat → Int32} (hL : L ≤ 3072) (C0 : lw_At p s m meth c b L xs) (D : va_G) (dT : Nat → ClassId) (hK : z_K D dT s) (vv rg li : Nat) (mm : Nat → Nat) (k9 : Nat) (hk9 : 6 * k9 + 6 ≤ L) (H : Heap) (locs : List Loc) (cells slots : Nat) (ls : Array Slot) (hl : lv_has ls 4 [(3, .int (nI (6 * k9))), (2, .ref (mm 0)), (1, .ref vv), (0, .ref b)]) (hS : va_S (fun q => s.heap.size ≤ q) s.heap H locs) (hI : lI D dT s.heap.size vv rg li mm H) (hc : cells + 5 ≤ 600000) (hs : slots + 3100 ≤ 7302250) (kk : ∀ (H : Heap) (locs : List Loc) (ls : Array Slot), lv_has ls 4 [(3, .int (nI (6 * k9))), (2, .ref (mm 0)), (1, .ref vv), (0, .ref b)] → va_S (fun q => s.heap.size ≤ q) s.heap H locs → lI D dT s.heap.size vv rg li mm H → W p l e room_1 s m #[Value.ref b] below meth c H locs (cells + 5) (slots + 3100) (lw_Z below #[Value.ref b] s) (F0 m 1170 ls [])) : W p l e room_1 s m #[Value.ref b] below meth c H locs (cells) (slots) (lw_Z below #[Value.ref b] s) (F0 m 728 ls []) := by
  obtain ⟨hx, hb, hr, hml, hown, hts, hX, hbl, hlocks, hgv⟩ := C0
  have hown : s.vm.findClass "ValueTreesLaw" = some m.cls := hown
  have ht : ∀ w ∈ gt, w.before #[Value.ref b] s = true := fun w h => hts w (gt_in h)
  have hbA : ¬ (fun q => s.heap.size ≤ q) b := Nat.not_le.mpr hbl
  obtain ⟨B, ed, tb, tc, RV, hC, hm, hmm, hrg0, hli0, hed0⟩ := hI
  have hV := mI_vOK hm
  refine lv_aload_n hx hb d_L_728 rfl (lv_at hl 2 rfl) ?_
  refine lv_aload_n hx hb d_L_729 rfl (lv_at hl 3 rfl) ?_
  refine lv_iload_n hx hb d_L_730 rfl (lv_at hl 0 rfl) ?_
  refine lv_iconst (v := 1) hx hb d_L_731 (by decide) ?_
  refine lv_iadd hx hb d_L_732 ?_
  rw [show (((nI (6 * k9)) + 1) : Int32) = nI ((6 * k9) + 1) from nI_add (6 * k9) 1]
  refine z_sld hx hb hX hbl hbA hS ((6 * k9) + 1) rfl (by omega) hL d_L_733 ?_
  refine lv_aload_n hx hb d_L_734 rfl (lv_at hl 3 rfl) ?_
  refine lv_iload_n hx hb d_L_735 rfl (lv_at hl 0 rfl) ?_
  refine lv_iconst (v := 2) hx hb d_L_736 (by decide) ?_
  refine lv_iadd hx hb d_L_737 ?_
  rw [show (((nI (6 * k9)) + 2) : Int32) = nI ((6 * k9) + 2) from nI_add (6 * k9) 2]
  refine z_sld hx hb hX hbl hbA hS ((6 * k9) + 2) rfl (by omega) hL d_L_738 ?_
  refine lv_aload_n hx hb d_L_739 rfl (lv_at hl 3 rfl) ?_
  refine lv_iload_n hx hb d_L_740 rfl (lv_at hl 0 rfl) ?_
  refine lv_iconst (v := 3) hx hb d_L_741 (by decide) ?_
  refine lv_iadd hx hb d_L_742 ?_
  rw [show (((nI (6 * k9)) + 3) : Int32) = nI ((6 * k9) + 3) from nI_add (6 * k9) 3]
  refine z_sld hx hb hX hbl hbA hS ((6 * k9) + 3) rfl (by omega) hL d_L_743 ?_
  have hSp := hS
  have hlt9 := fun (k : Nat) (hk : k < 10) => mI_lt hm hk
  refine z_callQ (va_runV (C := "ValueTrees") (As := [.int (xs ((6 * k9) + 1)), .int (xs ((6 * k9) + 2)), .int (xs ((6 * k9) + 3))]) (rest := []) ⟨hx, hb, hml, hown, hts⟩ (p_V_part l D dT _ B vv rg li ed tb tc RV hC hV (xs ((6 * k9) + 1)) (xs ((6 * k9) + 2)) (xs ((6 * k9) + 3))) ⟨callB_of 3 hts (gI gd_lw gd_l q477) rfl rfl rfl (ht _ q1) (ht _ q474) hd_V_part ⟨Nat.le_of_ble_eq_true rfl, Nat.le_of_ble_eq_true rfl⟩, ht _ q475, ht _ q476⟩ (z_preV hK (va_recv hK.1 (z_1 hC.2.1) (ci := 0) (q0 := 0) rfl rfl)) rfl rfl hl.1 rfl (lv_room (Nat.le_of_ble_eq_true rfl)) d_L_744 ⟨by show cells + 0 ≤ 600000; omega, by show slots + 0 ≤ 7302250; omega⟩) hS (fun q9 h9 => h9.elim (fun e9 => by rw [e9]; exact hrg0) (fun h8 => Nat.le_trans hSp.1 h8)) (fun v2 H locs hv1 hz3 hf4 hS => ?_)
  obtain ⟨rfl, hC⟩ := hv1
  have hm := hm.keep (fun k hk => hf4 _ (hlt9 k hk) (fun h9 => h9.elim (hmm k hk).2.1 (Nat.not_le.mpr (hlt9 k hk))))
  refine W.eq (g2 := F0 m 747 ls [.int ((kp RV (xs ((6 * k9) + 1)) (o_part RV (xs ((6 * k9) + 2)) (xs ((6 * k9) + 3)))).1)]) rfl ?_
  refine lv_aload_n hx hb d_L_747 rfl (lv_at hl 1 rfl) ?_
  refine lv_aload_n hx hb d_L_748 rfl (lv_at hl 3 rfl) ?_
  refine lv_iload_n hx hb d_L_749 rfl (lv_at hl 0 rfl) ?_
  refine lv_iconst (v := 1) hx hb d_L_750 (by decide) ?_
  refine lv_iadd hx hb d_L_751 ?_
  rw [show (((nI (6 * k9)) + 1) : Int32) = nI ((6 * k9) + 1) from nI_add (6 * k9) 1]
  refine z_sld hx hb hX hbl hbA hS ((6 * k9) + 1) rfl (by omega) hL d_L_752 ?_
  refine lv_aload_n hx hb d_L_753 rfl (lv_at hl 3 rfl) ?_
  refine lv_iload_n hx hb d_L_754 rfl (lv_at hl 0 rfl) ?_
  refine lv_iconst (v := 2) hx hb d_L_755 (by decide) ?_
  refine lv_iadd hx hb d_L_756 ?_
  rw [show (((nI (6 * k9)) + 2) : Int32) = nI ((6 * k9) + 2) from nI_add (6 * k9) 2]
  refine z_sld hx hb hX hbl hbA hS ((6 * k9) + 2) rfl (by omega) hL d_L_757 ?_
  refine lv_aload_n hx hb d_L_758 rfl (lv_at hl 3 rfl) ?_
  refine lv_iload_n hx hb d_L_759 rfl (lv_at hl 0 rfl) ?_
  refine lv_iconst (v := 3) hx hb d_L_760 (by decide) ?_
  refine lv_iadd hx hb d_L_761 ?_
  rw [show (((nI (6 * k9)) + 3) : Int32) = nI ((6 * k9) + 3) from nI_add (6 * k9) 3]
  refine z_sld hx hb hX hbl hbA hS ((6 * k9) + 3) rfl (by omega) hL d_L_762 ?_
  obtain ⟨fs9, hmo⟩ := mI_obj hm
  refine z_callQ (va_runV (C := "ValueTreesModel") (As := [.int (xs ((6 * k9) + 1)), .int (xs ((6 * k9) + 2)), .int (xs ((6 * k9) + 3))]) (rest := [.int ((kp RV (xs ((6 * k9) + 1)) (o_part RV (xs ((6 * k9) + 2)) (xs ((6 * k9) + 3)))).1)]) ⟨hx, hb, hml, hown, hts⟩ (p_M_part l D dT _ mm tb tc RV hm (xs ((6 * k9) + 1)) (xs ((6 * k9) + 2)) (xs ((6 * k9) + 3))) ⟨callB_of 3 hts (gI gd_lw gd_l q786) rfl rfl rfl (ht _ q10) (ht _ q783) hd_M_part ⟨Nat.le_of_ble_eq_true rfl, Nat.le_of_ble_eq_true rfl⟩, ht _ q784, ht _ q785⟩ (z_preV hK (z_recv hK hmo rfl)) rfl rfl hl.1 rfl (lv_room (Nat.le_of_ble_eq_true rfl)) d_L_763 ⟨by show cells + 0 + 0 ≤ 600000; omega, by show slots + 0 + 0 ≤ 7302250; omega⟩) hS (fun q9 h9 => by obtain ⟨k, hk, e9⟩ := h9; rw [e9]; exact (hmm k hk).2.2.2.2) (fun v6 H locs hv5 hz7 hf8 hS => ?_)
  obtain ⟨rfl, hm⟩ := hv5
  have hC := hC.keepM hz7 hf8 (fun k hk => (hmm k hk).1) (fun k hk => (hmm k hk).2.1) (fun k hk => (hmm k hk).2.2.1) (fun k hk => (hmm k hk).2.2.2.1)
  refine W.eq (g2 := F0 m 766 ls [.int ((kp RV (xs ((6 * k9) + 1)) (o_part RV (xs ((6 * k9) + 2)) (xs ((6 * k9) + 3)))).1), .int ((kp RV (xs ((6 * k9) + 1)) (o_part RV (xs ((6 * k9) + 2)) (xs ((6 * k9) + 3)))).1)]) rfl ?_
  refine lv_icmp_eq (tgt := 1170) hx hb d_L_766 (by decide) (fun _ => ?_) (fun h9 => absurd rfl h9)
  refine W.widen (k := cells + 5) (n := slots + 3100) (by omega) (by omega) ?_
  exact kk _ _ ls hl hS ⟨B, ed, _, _, _, hC, hm, hmm, hrg0, hli0, hed0⟩
theorem d_L_771 : decode code 771 = .ok (.aload_n 1, 1) := by decide +kernel
theorem d_L_772 : decode code 772 = .ok (.aload_n 0, 1) := by decide +kernel
theorem d_L_773 : decode code 773 = .ok (.iload_n 3, 1) := by decide +kernel
theorem d_L_774 : decode code 774 = .ok (.iconst 1, 1) := by decide +kernel
theorem d_L_775 : decode code 775 = .ok (.iadd, 1) := by decide +kernel
theorem d_L_776 : decode code 776 = .ok (.iaload, 1) := by decide +kernel
theorem d_L_777 : decode code 777 = .ok (.aload_n 0, 1) := by decide +kernel
theorem d_L_778 : decode code 778 = .ok (.iload_n 3, 1) := by decide +kernel
theorem d_L_779 : decode code 779 = .ok (.iconst 2, 1) := by decide +kernel
theorem d_L_780 : decode code 780 = .ok (.iadd, 1) := by decide +kernel
theorem d_L_781 : decode code 781 = .ok (.iaload, 1) := by decide +kernel
theorem d_L_782 : decode code 782 = .ok (.aload_n 0, 1) := by decide +kernel
theorem d_L_783 : decode code 783 = .ok (.iload_n 3, 1) := by decide +kernel
theorem d_L_784 : decode code 784 = .ok (.iconst 3, 1) := by decide +kernel
theorem d_L_785 : decode code 785 = .ok (.iadd, 1) := by decide +kernel
theorem d_L_786 : decode code 786 = .ok (.iaload, 1) := by decide +kernel
theorem d_L_787 : decode code 787 = .ok (.invokevirtual 72, 3) := by decide +kernel
theorem d_L_790 : decode code 790 = .ok (.aload_n 2, 1) := by decide +kernel
theorem d_L_791 : decode code 791 = .ok (.aload_n 0, 1) := by decide +kernel
theorem d_L_792 : decode code 792 = .ok (.iload_n 3, 1) := by decide +kernel
theorem d_L_793 : decode code 793 = .ok (.iconst 1, 1) := by decide +kernel
theorem d_L_794 : decode code 794 = .ok (.iadd, 1) := by decide +kernel
theorem d_L_795 : decode code 795 = .ok (.iaload, 1) := by decide +kernel
theorem d_L_796 : decode code 796 = .ok (.aload_n 0, 1) := by decide +kernel
theorem d_L_797 : decode code 797 = .ok (.iload_n 3, 1) := by decide +kernel
theorem d_L_798 : decode code 798 = .ok (.iconst 2, 1) := by decide +kernel
theorem d_L_799 : decode code 799 = .ok (.iadd, 1) := by decide +kernel
theorem d_L_800 : decode code 800 = .ok (.iaload, 1) := by decide +kernel
theorem d_L_801 : decode code 801 = .ok (.aload_n 0, 1) := by decide +kernel
theorem d_L_802 : decode code 802 = .ok (.iload_n 3, 1) := by decide +kernel
theorem d_L_803 : decode code 803 = .ok (.iconst 3, 1) := by decide +kernel
theorem d_L_804 : decode code 804 = .ok (.iadd, 1) := by decide +kernel
theorem d_L_805 : decode code 805 = .ok (.iaload, 1) := by decide +kernel
theorem d_L_806 : decode code 806 = .ok (.invokevirtual 75, 3) := by decide +kernel
theorem d_L_809 : decode code 809 = .ok (.if_icmp .eq 361, 3) := by decide +kernel
theorem d_L_812 : decode code 812 = .ok (.iconst 0, 1) := by decide +kernel
theorem d_L_813 : decode code 813 = .ok (.ireturn, 1) := by decide +kernel
set_option maxHeartbeats 4000000 in
set_option maxRecDepth 100000 in
theorem law_c13 (l : Launch) {p : Program} {e : Env} {s : State} {m : MethodId} {below : List Frame} {meth : Method} {c : Code} {b L : Nat} {xs : Nat → Int32} (hL : L ≤ 3072) (C0 : lw_At p s m meth c b L xs) (D : va_G) (dT : Nat → ClassId) (hK : z_K D dT s) (vv rg li : Nat) (mm : Nat → Nat) (k9 : Nat) (hk9 : 6 * k9 + 6 ≤ L) (H : Heap) (locs : List Loc) (cells slots : Nat) (ls : Array Slot) (hl : lv_has ls 4 [(3, .int (nI (6 * k9))), (2, .ref (mm 0)), (1, .ref vv), (0, .ref b)]) (hS : va_S (fun q => s.heap.size ≤ q) s.heap H locs) (hI : lI D dT s.heap.size vv rg li mm H) (hc : cells + 5 ≤ 600000) (hs : slots + 3100 ≤ 7302250) (kk : ∀ (H : Heap) (locs : List Loc) (ls : Array Slot), lv_has ls 4 [(3, .int (nI (6 * k9))), (2, .ref (mm 0)), (1, .ref vv), (0, .ref b)] → va_S (fun q => s.heap.size ≤ q) s.heap H locs → lI D dT s.heap.size vv rg li mm H → W p l e room_1 s m #[Value.ref b] below meth c H locs (cells + 5) (slots + 3100) (lw_Z below #[Value.ref b] s) (F0 m 1170 ls [])) : W p l e room_1 s m #[Value.ref b] below meth c H locs (cells) (slots) (lw_Z below #[Value.ref b] s) (F0 m 771 ls []) := by
  obtain ⟨hx, hb, hr, hml, hown, hts, hX, hbl, hlocks, hgv⟩ := C0
  have hown : s.vm.findClass "ValueTreesLaw" = some m.cls := hown
  have ht : ∀ w ∈ gt, w.before #[Value.ref b] s = true := fun w h => hts w (gt_in h)
  have hbA : ¬ (fun q => s.heap.size ≤ q) b := Nat.not_le.mpr hbl
  obtain ⟨B, ed, tb, tc, RV, hC, hm, hmm, hrg0, hli0, hed0⟩ := hI
  have hV := mI_vOK hm
  refine lv_aload_n hx hb d_L_771 rfl (lv_at hl 2 rfl) ?_
  refine lv_aload_n hx hb d_L_772 rfl (lv_at hl 3 rfl) ?_
  refine lv_iload_n hx hb d_L_773 rfl (lv_at hl 0 rfl) ?_
  refine lv_iconst (v := 1) hx hb d_L_774 (by decide) ?_
  refine lv_iadd hx hb d_L_775 ?_
  rw [show (((nI (6 * k9)) + 1) : Int32) = nI ((6 * k9) + 1) from nI_add (6 * k9) 1]
  refine z_sld hx hb hX hbl hbA hS ((6 * k9) + 1) rfl (by omega) hL d_L_776 ?_
  refine lv_aload_n hx hb d_L_777 rfl (lv_at hl 3 rfl) ?_
  refine lv_iload_n hx hb d_L_778 rfl (lv_at hl 0 rfl) ?_
  refine lv_iconst (v := 2) hx hb d_L_779 (by decide) ?_
  refine lv_iadd hx hb d_L_780 ?_
  rw [show (((nI (6 * k9)) + 2) : Int32) = nI ((6 * k9) + 2) from nI_add (6 * k9) 2]
  refine z_sld hx hb hX hbl hbA hS ((6 * k9) + 2) rfl (by omega) hL d_L_781 ?_
  refine lv_aload_n hx hb d_L_782 rfl (lv_at hl 3 rfl) ?_
  refine lv_iload_n hx hb d_L_783 rfl (lv_at hl 0 rfl) ?_
  refine lv_iconst (v := 3) hx hb d_L_784 (by decide) ?_
  refine lv_iadd hx hb d_L_785 ?_
  rw [show (((nI (6 * k9)) + 3) : Int32) = nI ((6 * k9) + 3) from nI_add (6 * k9) 3]
  refine z_sld hx hb hX hbl hbA hS ((6 * k9) + 3) rfl (by omega) hL d_L_786 ?_
  have hSp := hS
  have hlt9 := fun (k : Nat) (hk : k < 10) => mI_lt hm hk
  refine z_callQ (va_runV (C := "ValueTrees") (As := [.int (xs ((6 * k9) + 1)), .int (xs ((6 * k9) + 2)), .int (xs ((6 * k9) + 3))]) (rest := []) ⟨hx, hb, hml, hown, hts⟩ (p_V_get l D dT _ B vv rg li ed tb tc RV hC hV (xs ((6 * k9) + 1)) (xs ((6 * k9) + 2)) (xs ((6 * k9) + 3))) ⟨callB_of 3 hts (gI gd_lw gd_l q484) rfl rfl rfl (ht _ q1) (ht _ q481) hd_V_get ⟨Nat.le_of_ble_eq_true rfl, Nat.le_of_ble_eq_true rfl⟩, ht _ q482, ht _ q483⟩ (z_preV hK (va_recv hK.1 (z_1 hC.2.1) (ci := 0) (q0 := 0) rfl rfl)) rfl rfl hl.1 rfl (lv_room (Nat.le_of_ble_eq_true rfl)) d_L_787 ⟨by show cells + 0 ≤ 600000; omega, by show slots + 0 ≤ 7302250; omega⟩) hS (fun q9 h9 => h9.elim (fun e9 => by rw [e9]; exact hrg0) (fun h8 => Nat.le_trans hSp.1 h8)) (fun v2 H locs hv1 hz3 hf4 hS => ?_)
  obtain ⟨rfl, hC⟩ := hv1
  have hm := hm.keep (fun k hk => hf4 _ (hlt9 k hk) (fun h9 => h9.elim (hmm k hk).2.1 (Nat.not_le.mpr (hlt9 k hk))))
  refine W.eq (g2 := F0 m 790 ls [.int ((kp RV (xs ((6 * k9) + 1)) (o_get tb RV (xs ((6 * k9) + 2)) (xs ((6 * k9) + 3)))).1)]) rfl ?_
  refine lv_aload_n hx hb d_L_790 rfl (lv_at hl 1 rfl) ?_
  refine lv_aload_n hx hb d_L_791 rfl (lv_at hl 3 rfl) ?_
  refine lv_iload_n hx hb d_L_792 rfl (lv_at hl 0 rfl) ?_
  refine lv_iconst (v := 1) hx hb d_L_793 (by decide) ?_
  refine lv_iadd hx hb d_L_794 ?_
  rw [show (((nI (6 * k9)) + 1) : Int32) = nI ((6 * k9) + 1) from nI_add (6 * k9) 1]
  refine z_sld hx hb hX hbl hbA hS ((6 * k9) + 1) rfl (by omega) hL d_L_795 ?_
  refine lv_aload_n hx hb d_L_796 rfl (lv_at hl 3 rfl) ?_
  refine lv_iload_n hx hb d_L_797 rfl (lv_at hl 0 rfl) ?_
  refine lv_iconst (v := 2) hx hb d_L_798 (by decide) ?_
  refine lv_iadd hx hb d_L_799 ?_
  rw [show (((nI (6 * k9)) + 2) : Int32) = nI ((6 * k9) + 2) from nI_add (6 * k9) 2]
  refine z_sld hx hb hX hbl hbA hS ((6 * k9) + 2) rfl (by omega) hL d_L_800 ?_
  refine lv_aload_n hx hb d_L_801 rfl (lv_at hl 3 rfl) ?_
  refine lv_iload_n hx hb d_L_802 rfl (lv_at hl 0 rfl) ?_
  refine lv_iconst (v := 3) hx hb d_L_803 (by decide) ?_
  refine lv_iadd hx hb d_L_804 ?_
  rw [show (((nI (6 * k9)) + 3) : Int32) = nI ((6 * k9) + 3) from nI_add (6 * k9) 3]
  refine z_sld hx hb hX hbl hbA hS ((6 * k9) + 3) rfl (by omega) hL d_L_805 ?_
  obtain ⟨fs9, hmo⟩ := mI_obj hm
  refine z_callQ (va_runV (C := "ValueTreesModel") (As := [.int (xs ((6 * k9) + 1)), .int (xs ((6 * k9) + 2)), .int (xs ((6 * k9) + 3))]) (rest := [.int ((kp RV (xs ((6 * k9) + 1)) (o_get tb RV (xs ((6 * k9) + 2)) (xs ((6 * k9) + 3)))).1)]) ⟨hx, hb, hml, hown, hts⟩ (p_M_get l D dT _ mm tb tc RV hm (xs ((6 * k9) + 1)) (xs ((6 * k9) + 2)) (xs ((6 * k9) + 3))) ⟨callB_of 3 hts (gI gd_lw gd_l q794) rfl rfl rfl (ht _ q10) (ht _ q791) hd_M_get ⟨Nat.le_of_ble_eq_true rfl, Nat.le_of_ble_eq_true rfl⟩, ht _ q792, ht _ q793⟩ (z_preV hK (z_recv hK hmo rfl)) rfl rfl hl.1 rfl (lv_room (Nat.le_of_ble_eq_true rfl)) d_L_806 ⟨by show cells + 0 + 0 ≤ 600000; omega, by show slots + 0 + 0 ≤ 7302250; omega⟩) hS (fun q9 h9 => by obtain ⟨k, hk, e9⟩ := h9; rw [e9]; exact (hmm k hk).2.2.2.2) (fun v6 H locs hv5 hz7 hf8 hS => ?_)
  obtain ⟨rfl, hm⟩ := hv5
  have hC := hC.keepM hz7 hf8 (fun k hk => (hmm k hk).1) (fun k hk => (hmm k hk).2.1) (fun k hk => (hmm k hk).2.2.1) (fun k hk => (hmm k hk).2.2.2.1)
  refine W.eq (g2 := F0 m 809 ls [.int ((kp RV (xs ((6 * k9) + 1)) (o_get tb RV (xs ((6 * k9) + 2)) (xs ((6 * k9) + 3)))).1), .int ((kp RV (xs ((6 * k9) + 1)) (o_get tb RV (xs ((6 * k9) + 2)) (xs ((6 * k9) + 3)))).1)]) rfl ?_
  refine lv_icmp_eq (tgt := 1170) hx hb d_L_809 (by decide) (fun _ => ?_) (fun h9 => absurd rfl h9)
  refine W.widen (k := cells + 5) (n := slots + 3100) (by omega) (by omega) ?_
  exact kk _ _ ls hl hS ⟨B, ed, _, _, _, hC, hm, hmm, hrg0, hli0, hed0⟩
theorem d_L_814 : decode code 814 = .ok (.aload_n 1, 1) := by decide +kernel
theorem d_L_815 : decode code 815 = .ok (.aload_n 0, 1) := by decide +kernel
theorem d_L_816 : decode code 816 = .ok (.iload_n 3, 1) := by decide +kernel
theorem d_L_817 : decode code 817 = .ok (.iconst 1, 1) := by decide +kernel
theorem d_L_818 : decode code 818 = .ok (.iadd, 1) := by decide +kernel
theorem d_L_819 : decode code 819 = .ok (.iaload, 1) := by decide +kernel
theorem d_L_820 : decode code 820 = .ok (.aload_n 0, 1) := by decide +kernel
theorem d_L_821 : decode code 821 = .ok (.iload_n 3, 1) := by decide +kernel
theorem d_L_822 : decode code 822 = .ok (.iconst 2, 1) := by decide +kernel
theorem d_L_823 : decode code 823 = .ok (.iadd, 1) := by decide +kernel
theorem d_L_824 : decode code 824 = .ok (.iaload, 1) := by decide +kernel
theorem d_L_825 : decode code 825 = .ok (.aload_n 0, 1) := by decide +kernel
theorem d_L_826 : decode code 826 = .ok (.iload_n 3, 1) := by decide +kernel
theorem d_L_827 : decode code 827 = .ok (.iconst 3, 1) := by decide +kernel
theorem d_L_828 : decode code 828 = .ok (.iadd, 1) := by decide +kernel
theorem d_L_829 : decode code 829 = .ok (.iaload, 1) := by decide +kernel
theorem d_L_830 : decode code 830 = .ok (.aload_n 0, 1) := by decide +kernel
theorem d_L_831 : decode code 831 = .ok (.iload_n 3, 1) := by decide +kernel
theorem d_L_832 : decode code 832 = .ok (.iconst 4, 1) := by decide +kernel
theorem d_L_833 : decode code 833 = .ok (.iadd, 1) := by decide +kernel
theorem d_L_834 : decode code 834 = .ok (.iaload, 1) := by decide +kernel
theorem d_L_835 : decode code 835 = .ok (.invokevirtual 76, 3) := by decide +kernel
theorem d_L_838 : decode code 838 = .ok (.aload_n 2, 1) := by decide +kernel
theorem d_L_839 : decode code 839 = .ok (.aload_n 0, 1) := by decide +kernel
theorem d_L_840 : decode code 840 = .ok (.iload_n 3, 1) := by decide +kernel
theorem d_L_841 : decode code 841 = .ok (.iconst 1, 1) := by decide +kernel
theorem d_L_842 : decode code 842 = .ok (.iadd, 1) := by decide +kernel
theorem d_L_843 : decode code 843 = .ok (.iaload, 1) := by decide +kernel
theorem d_L_844 : decode code 844 = .ok (.aload_n 0, 1) := by decide +kernel
theorem d_L_845 : decode code 845 = .ok (.iload_n 3, 1) := by decide +kernel
theorem d_L_846 : decode code 846 = .ok (.iconst 2, 1) := by decide +kernel
theorem d_L_847 : decode code 847 = .ok (.iadd, 1) := by decide +kernel
theorem d_L_848 : decode code 848 = .ok (.iaload, 1) := by decide +kernel
theorem d_L_849 : decode code 849 = .ok (.aload_n 0, 1) := by decide +kernel
theorem d_L_850 : decode code 850 = .ok (.iload_n 3, 1) := by decide +kernel
theorem d_L_851 : decode code 851 = .ok (.iconst 3, 1) := by decide +kernel
theorem d_L_852 : decode code 852 = .ok (.iadd, 1) := by decide +kernel
theorem d_L_853 : decode code 853 = .ok (.iaload, 1) := by decide +kernel
theorem d_L_854 : decode code 854 = .ok (.aload_n 0, 1) := by decide +kernel
theorem d_L_855 : decode code 855 = .ok (.iload_n 3, 1) := by decide +kernel
theorem d_L_856 : decode code 856 = .ok (.iconst 4, 1) := by decide +kernel
theorem d_L_857 : decode code 857 = .ok (.iadd, 1) := by decide +kernel
theorem d_L_858 : decode code 858 = .ok (.iaload, 1) := by decide +kernel
theorem d_L_859 : decode code 859 = .ok (.invokevirtual 79, 3) := by decide +kernel
theorem d_L_862 : decode code 862 = .ok (.if_icmp .eq 308, 3) := by decide +kernel
theorem d_L_865 : decode code 865 = .ok (.iconst 0, 1) := by decide +kernel
theorem d_L_866 : decode code 866 = .ok (.ireturn, 1) := by decide +kernel
set_option maxHeartbeats 4000000 in
set_option maxRecDepth 100000 in
theorem law_c14 (l : Launch) {p : Program} {e : Env} {s : State} {m : MethodId} {below : List Frame} {meth : Method} {c : Code} {b L : Nat} {xs : Nat → Int32} (hL : L ≤ 3072) (C0 : lw_At p s m meth c b L xs) (D : va_G) (dT : Nat → ClassId) (hK : z_K D dT s) (vv rg li : Nat) (mm : Nat → Nat) (k9 : Nat) (hk9 : 6 * k9 + 6 ≤ L) (H : Heap) (locs : List Loc) (cells slots : Nat) (ls : Array Slot) (hl : lv_has ls 4 [(3, .int (nI (6 * k9))), (2, .ref (mm 0)), (1, .ref vv), (0, .ref b)]) (hS : va_S (fun q => s.heap.size ≤ q) s.heap H locs) (hI : lI D dT s.heap.size vv rg li mm H) (hc : cells + 5 ≤ 600000) (hs : slots + 3100 ≤ 7302250) (kk : ∀ (H : Heap) (locs : List Loc) (ls : Array Slot), lv_has ls 4 [(3, .int (nI (6 * k9))), (2, .ref (mm 0)), (1, .ref vv), (0, .ref b)] → va_S (fun q => s.heap.size ≤ q) s.heap H locs → lI D dT s.heap.size vv rg li mm H → W p l e room_1 s m #[Value.ref b] below meth c H locs (cells + 5) (slots + 3100) (lw_Z below #[Value.ref b] s) (F0 m 1170 ls [])) : W p l e room_1 s m #[Value.ref b] below meth c H locs (cells) (slots) (lw_Z below #[Value.ref b] s) (F0 m 814 ls []) := by
  obtain ⟨hx, hb, hr, hml, hown, hts, hX, hbl, hlocks, hgv⟩ := C0
  have hown : s.vm.findClass "ValueTreesLaw" = some m.cls := hown
  have ht : ∀ w ∈ gt, w.before #[Value.ref b] s = true := fun w h => hts w (gt_in h)
  have hbA : ¬ (fun q => s.heap.size ≤ q) b := Nat.not_le.mpr hbl
  obtain ⟨B, ed, tb, tc, RV, hC, hm, hmm, hrg0, hli0, hed0⟩ := hI
  have hV := mI_vOK hm
  refine lv_aload_n hx hb d_L_814 rfl (lv_at hl 2 rfl) ?_
  refine lv_aload_n hx hb d_L_815 rfl (lv_at hl 3 rfl) ?_
  refine lv_iload_n hx hb d_L_816 rfl (lv_at hl 0 rfl) ?_
  refine lv_iconst (v := 1) hx hb d_L_817 (by decide) ?_
  refine lv_iadd hx hb d_L_818 ?_
  rw [show (((nI (6 * k9)) + 1) : Int32) = nI ((6 * k9) + 1) from nI_add (6 * k9) 1]
  refine z_sld hx hb hX hbl hbA hS ((6 * k9) + 1) rfl (by omega) hL d_L_819 ?_
  refine lv_aload_n hx hb d_L_820 rfl (lv_at hl 3 rfl) ?_
  refine lv_iload_n hx hb d_L_821 rfl (lv_at hl 0 rfl) ?_
  refine lv_iconst (v := 2) hx hb d_L_822 (by decide) ?_
  refine lv_iadd hx hb d_L_823 ?_
  rw [show (((nI (6 * k9)) + 2) : Int32) = nI ((6 * k9) + 2) from nI_add (6 * k9) 2]
  refine z_sld hx hb hX hbl hbA hS ((6 * k9) + 2) rfl (by omega) hL d_L_824 ?_
  refine lv_aload_n hx hb d_L_825 rfl (lv_at hl 3 rfl) ?_
  refine lv_iload_n hx hb d_L_826 rfl (lv_at hl 0 rfl) ?_
  refine lv_iconst (v := 3) hx hb d_L_827 (by decide) ?_
  refine lv_iadd hx hb d_L_828 ?_
  rw [show (((nI (6 * k9)) + 3) : Int32) = nI ((6 * k9) + 3) from nI_add (6 * k9) 3]
  refine z_sld hx hb hX hbl hbA hS ((6 * k9) + 3) rfl (by omega) hL d_L_829 ?_
  refine lv_aload_n hx hb d_L_830 rfl (lv_at hl 3 rfl) ?_
  refine lv_iload_n hx hb d_L_831 rfl (lv_at hl 0 rfl) ?_
  refine lv_iconst (v := 4) hx hb d_L_832 (by decide) ?_
  refine lv_iadd hx hb d_L_833 ?_
  rw [show (((nI (6 * k9)) + 4) : Int32) = nI ((6 * k9) + 4) from nI_add (6 * k9) 4]
  refine z_sld hx hb hX hbl hbA hS ((6 * k9) + 4) rfl (by omega) hL d_L_834 ?_
  have hSp := hS
  have hlt9 := fun (k : Nat) (hk : k < 10) => mI_lt hm hk
  refine z_callQ (va_runV (C := "ValueTrees") (As := [.int (xs ((6 * k9) + 1)), .int (xs ((6 * k9) + 2)), .int (xs ((6 * k9) + 3)), .int (xs ((6 * k9) + 4))]) (rest := []) ⟨hx, hb, hml, hown, hts⟩ (p_V_at l D dT _ B vv rg li ed tb tc RV hC hV (xs ((6 * k9) + 1)) (xs ((6 * k9) + 2)) (xs ((6 * k9) + 3)) (xs ((6 * k9) + 4))) ⟨callB_of 4 hts (gI gd_lw gd_l q488) rfl rfl rfl (ht _ q1) (ht _ q485) hd_V_at ⟨Nat.le_of_ble_eq_true rfl, Nat.le_of_ble_eq_true rfl⟩, ht _ q486, ht _ q487⟩ (z_preV hK (va_recv hK.1 (z_1 hC.2.1) (ci := 0) (q0 := 0) rfl rfl)) rfl rfl hl.1 rfl (lv_room (Nat.le_of_ble_eq_true rfl)) d_L_835 ⟨by show cells + 0 ≤ 600000; omega, by show slots + 0 ≤ 7302250; omega⟩) hS (fun q9 h9 => h9.elim (fun e9 => by rw [e9]; exact hrg0) (fun h8 => Nat.le_trans hSp.1 h8)) (fun v2 H locs hv1 hz3 hf4 hS => ?_)
  obtain ⟨rfl, hC⟩ := hv1
  have hm := hm.keep (fun k hk => hf4 _ (hlt9 k hk) (fun h9 => h9.elim (hmm k hk).2.1 (Nat.not_le.mpr (hlt9 k hk))))
  refine W.eq (g2 := F0 m 838 ls [.int ((kp RV (xs ((6 * k9) + 1)) (o_at RV (xs ((6 * k9) + 2)) (xs ((6 * k9) + 3)) (xs ((6 * k9) + 4)))).1)]) rfl ?_
  refine lv_aload_n hx hb d_L_838 rfl (lv_at hl 1 rfl) ?_
  refine lv_aload_n hx hb d_L_839 rfl (lv_at hl 3 rfl) ?_
  refine lv_iload_n hx hb d_L_840 rfl (lv_at hl 0 rfl) ?_
  refine lv_iconst (v := 1) hx hb d_L_841 (by decide) ?_
  refine lv_iadd hx hb d_L_842 ?_
  rw [show (((nI (6 * k9)) + 1) : Int32) = nI ((6 * k9) + 1) from nI_add (6 * k9) 1]
  refine z_sld hx hb hX hbl hbA hS ((6 * k9) + 1) rfl (by omega) hL d_L_843 ?_
  refine lv_aload_n hx hb d_L_844 rfl (lv_at hl 3 rfl) ?_
  refine lv_iload_n hx hb d_L_845 rfl (lv_at hl 0 rfl) ?_
  refine lv_iconst (v := 2) hx hb d_L_846 (by decide) ?_
  refine lv_iadd hx hb d_L_847 ?_
  rw [show (((nI (6 * k9)) + 2) : Int32) = nI ((6 * k9) + 2) from nI_add (6 * k9) 2]
  refine z_sld hx hb hX hbl hbA hS ((6 * k9) + 2) rfl (by omega) hL d_L_848 ?_
  refine lv_aload_n hx hb d_L_849 rfl (lv_at hl 3 rfl) ?_
  refine lv_iload_n hx hb d_L_850 rfl (lv_at hl 0 rfl) ?_
  refine lv_iconst (v := 3) hx hb d_L_851 (by decide) ?_
  refine lv_iadd hx hb d_L_852 ?_
  rw [show (((nI (6 * k9)) + 3) : Int32) = nI ((6 * k9) + 3) from nI_add (6 * k9) 3]
  refine z_sld hx hb hX hbl hbA hS ((6 * k9) + 3) rfl (by omega) hL d_L_853 ?_
  refine lv_aload_n hx hb d_L_854 rfl (lv_at hl 3 rfl) ?_
  refine lv_iload_n hx hb d_L_855 rfl (lv_at hl 0 rfl) ?_
  refine lv_iconst (v := 4) hx hb d_L_856 (by decide) ?_
  refine lv_iadd hx hb d_L_857 ?_
  rw [show (((nI (6 * k9)) + 4) : Int32) = nI ((6 * k9) + 4) from nI_add (6 * k9) 4]
  refine z_sld hx hb hX hbl hbA hS ((6 * k9) + 4) rfl (by omega) hL d_L_858 ?_
  obtain ⟨fs9, hmo⟩ := mI_obj hm
  refine z_callQ (va_runV (C := "ValueTreesModel") (As := [.int (xs ((6 * k9) + 1)), .int (xs ((6 * k9) + 2)), .int (xs ((6 * k9) + 3)), .int (xs ((6 * k9) + 4))]) (rest := [.int ((kp RV (xs ((6 * k9) + 1)) (o_at RV (xs ((6 * k9) + 2)) (xs ((6 * k9) + 3)) (xs ((6 * k9) + 4)))).1)]) ⟨hx, hb, hml, hown, hts⟩ (p_M_at l D dT _ mm tb tc RV hm (xs ((6 * k9) + 1)) (xs ((6 * k9) + 2)) (xs ((6 * k9) + 3)) (xs ((6 * k9) + 4))) ⟨callB_of 4 hts (gI gd_lw gd_l q798) rfl rfl rfl (ht _ q10) (ht _ q795) hd_M_at ⟨Nat.le_of_ble_eq_true rfl, Nat.le_of_ble_eq_true rfl⟩, ht _ q796, ht _ q797⟩ (z_preV hK (z_recv hK hmo rfl)) rfl rfl hl.1 rfl (lv_room (Nat.le_of_ble_eq_true rfl)) d_L_859 ⟨by show cells + 0 + 0 ≤ 600000; omega, by show slots + 0 + 0 ≤ 7302250; omega⟩) hS (fun q9 h9 => by obtain ⟨k, hk, e9⟩ := h9; rw [e9]; exact (hmm k hk).2.2.2.2) (fun v6 H locs hv5 hz7 hf8 hS => ?_)
  obtain ⟨rfl, hm⟩ := hv5
  have hC := hC.keepM hz7 hf8 (fun k hk => (hmm k hk).1) (fun k hk => (hmm k hk).2.1) (fun k hk => (hmm k hk).2.2.1) (fun k hk => (hmm k hk).2.2.2.1)
  refine W.eq (g2 := F0 m 862 ls [.int ((kp RV (xs ((6 * k9) + 1)) (o_at RV (xs ((6 * k9) + 2)) (xs ((6 * k9) + 3)) (xs ((6 * k9) + 4)))).1), .int ((kp RV (xs ((6 * k9) + 1)) (o_at RV (xs ((6 * k9) + 2)) (xs ((6 * k9) + 3)) (xs ((6 * k9) + 4)))).1)]) rfl ?_
  refine lv_icmp_eq (tgt := 1170) hx hb d_L_862 (by decide) (fun _ => ?_) (fun h9 => absurd rfl h9)
  refine W.widen (k := cells + 5) (n := slots + 3100) (by omega) (by omega) ?_
  exact kk _ _ ls hl hS ⟨B, ed, _, _, _, hC, hm, hmm, hrg0, hli0, hed0⟩
theorem d_L_867 : decode code 867 = .ok (.aload_n 1, 1) := by decide +kernel
theorem d_L_868 : decode code 868 = .ok (.aload_n 0, 1) := by decide +kernel
theorem d_L_869 : decode code 869 = .ok (.iload_n 3, 1) := by decide +kernel
theorem d_L_870 : decode code 870 = .ok (.iconst 1, 1) := by decide +kernel
theorem d_L_871 : decode code 871 = .ok (.iadd, 1) := by decide +kernel
theorem d_L_872 : decode code 872 = .ok (.iaload, 1) := by decide +kernel
theorem d_L_873 : decode code 873 = .ok (.aload_n 0, 1) := by decide +kernel
theorem d_L_874 : decode code 874 = .ok (.iload_n 3, 1) := by decide +kernel
theorem d_L_875 : decode code 875 = .ok (.iconst 2, 1) := by decide +kernel
theorem d_L_876 : decode code 876 = .ok (.iadd, 1) := by decide +kernel
theorem d_L_877 : decode code 877 = .ok (.iaload, 1) := by decide +kernel
theorem d_L_878 : decode code 878 = .ok (.invokevirtual 80, 3) := by decide +kernel
theorem d_L_881 : decode code 881 = .ok (.aload_n 2, 1) := by decide +kernel
theorem d_L_882 : decode code 882 = .ok (.aload_n 0, 1) := by decide +kernel
theorem d_L_883 : decode code 883 = .ok (.iload_n 3, 1) := by decide +kernel
theorem d_L_884 : decode code 884 = .ok (.iconst 1, 1) := by decide +kernel
theorem d_L_885 : decode code 885 = .ok (.iadd, 1) := by decide +kernel
theorem d_L_886 : decode code 886 = .ok (.iaload, 1) := by decide +kernel
theorem d_L_887 : decode code 887 = .ok (.aload_n 0, 1) := by decide +kernel
theorem d_L_888 : decode code 888 = .ok (.iload_n 3, 1) := by decide +kernel
theorem d_L_889 : decode code 889 = .ok (.iconst 2, 1) := by decide +kernel
theorem d_L_890 : decode code 890 = .ok (.iadd, 1) := by decide +kernel
theorem d_L_891 : decode code 891 = .ok (.iaload, 1) := by decide +kernel
theorem d_L_892 : decode code 892 = .ok (.invokevirtual 84, 3) := by decide +kernel
theorem d_L_895 : decode code 895 = .ok (.if_icmp .eq 275, 3) := by decide +kernel
theorem d_L_898 : decode code 898 = .ok (.iconst 0, 1) := by decide +kernel
theorem d_L_899 : decode code 899 = .ok (.ireturn, 1) := by decide +kernel
set_option maxHeartbeats 4000000 in
set_option maxRecDepth 100000 in
theorem law_c15 (l : Launch) {p : Program} {e : Env} {s : State} {m : MethodId} {below : List Frame} {meth : Method} {c : Code} {b L : Nat} {xs : Nat → Int32} (hL : L ≤ 3072) (C0 : lw_At p s m meth c b L xs) (D : va_G) (dT : Nat → ClassId) (hK : z_K D dT s) (vv rg li : Nat) (mm : Nat → Nat) (k9 : Nat) (hk9 : 6 * k9 + 6 ≤ L) (H : Heap) (locs : List Loc) (cells slots : Nat) (ls : Array Slot) (hl : lv_has ls 4 [(3, .int (nI (6 * k9))), (2, .ref (mm 0)), (1, .ref vv), (0, .ref b)]) (hS : va_S (fun q => s.heap.size ≤ q) s.heap H locs) (hI : lI D dT s.heap.size vv rg li mm H) (hc : cells + 5 ≤ 600000) (hs : slots + 3100 ≤ 7302250) (kk : ∀ (H : Heap) (locs : List Loc) (ls : Array Slot), lv_has ls 4 [(3, .int (nI (6 * k9))), (2, .ref (mm 0)), (1, .ref vv), (0, .ref b)] → va_S (fun q => s.heap.size ≤ q) s.heap H locs → lI D dT s.heap.size vv rg li mm H → W p l e room_1 s m #[Value.ref b] below meth c H locs (cells + 5) (slots + 3100) (lw_Z below #[Value.ref b] s) (F0 m 1170 ls [])) : W p l e room_1 s m #[Value.ref b] below meth c H locs (cells) (slots) (lw_Z below #[Value.ref b] s) (F0 m 867 ls []) := by
  obtain ⟨hx, hb, hr, hml, hown, hts, hX, hbl, hlocks, hgv⟩ := C0
  have hown : s.vm.findClass "ValueTreesLaw" = some m.cls := hown
  have ht : ∀ w ∈ gt, w.before #[Value.ref b] s = true := fun w h => hts w (gt_in h)
  have hbA : ¬ (fun q => s.heap.size ≤ q) b := Nat.not_le.mpr hbl
  obtain ⟨B, ed, tb, tc, RV, hC, hm, hmm, hrg0, hli0, hed0⟩ := hI
  have hV := mI_vOK hm
  refine lv_aload_n hx hb d_L_867 rfl (lv_at hl 2 rfl) ?_
  refine lv_aload_n hx hb d_L_868 rfl (lv_at hl 3 rfl) ?_
  refine lv_iload_n hx hb d_L_869 rfl (lv_at hl 0 rfl) ?_
  refine lv_iconst (v := 1) hx hb d_L_870 (by decide) ?_
  refine lv_iadd hx hb d_L_871 ?_
  rw [show (((nI (6 * k9)) + 1) : Int32) = nI ((6 * k9) + 1) from nI_add (6 * k9) 1]
  refine z_sld hx hb hX hbl hbA hS ((6 * k9) + 1) rfl (by omega) hL d_L_872 ?_
  refine lv_aload_n hx hb d_L_873 rfl (lv_at hl 3 rfl) ?_
  refine lv_iload_n hx hb d_L_874 rfl (lv_at hl 0 rfl) ?_
  refine lv_iconst (v := 2) hx hb d_L_875 (by decide) ?_
  refine lv_iadd hx hb d_L_876 ?_
  rw [show (((nI (6 * k9)) + 2) : Int32) = nI ((6 * k9) + 2) from nI_add (6 * k9) 2]
  refine z_sld hx hb hX hbl hbA hS ((6 * k9) + 2) rfl (by omega) hL d_L_877 ?_
  have hSp := hS
  have hlt9 := fun (k : Nat) (hk : k < 10) => mI_lt hm hk
  refine z_callQ (va_runV (C := "ValueTrees") (As := [.int (xs ((6 * k9) + 1)), .int (xs ((6 * k9) + 2))]) (rest := []) ⟨hx, hb, hml, hown, hts⟩ (p_V_move l D dT _ B vv rg li ed tb tc RV hC hV (xs ((6 * k9) + 1)) (xs ((6 * k9) + 2))) ⟨callB_of 2 hts (gI gd_lw gd_l q492) rfl rfl rfl (ht _ q1) (ht _ q489) hd_V_move ⟨Nat.le_of_ble_eq_true rfl, Nat.le_of_ble_eq_true rfl⟩, ht _ q490, ht _ q491⟩ (z_preV hK (va_recv hK.1 (z_1 hC.2.1) (ci := 0) (q0 := 0) rfl rfl)) rfl rfl hl.1 rfl (lv_room (Nat.le_of_ble_eq_true rfl)) d_L_878 ⟨by show cells + 0 ≤ 600000; omega, by show slots + 0 ≤ 7302250; omega⟩) hS (fun q9 h9 => by rw [show q9 = rg from h9]; exact hrg0) (fun v2 H locs hv1 hz3 hf4 hS => ?_)
  obtain ⟨rfl, hC⟩ := hv1
  have hm := hm.keep (fun k hk => hf4 _ (hlt9 k hk) (hmm k hk).2.1)
  refine W.eq (g2 := F0 m 881 ls [.int (a_move (xs ((6 * k9) + 1)) (xs ((6 * k9) + 2)))]) rfl ?_
  refine lv_aload_n hx hb d_L_881 rfl (lv_at hl 1 rfl) ?_
  refine lv_aload_n hx hb d_L_882 rfl (lv_at hl 3 rfl) ?_
  refine lv_iload_n hx hb d_L_883 rfl (lv_at hl 0 rfl) ?_
  refine lv_iconst (v := 1) hx hb d_L_884 (by decide) ?_
  refine lv_iadd hx hb d_L_885 ?_
  rw [show (((nI (6 * k9)) + 1) : Int32) = nI ((6 * k9) + 1) from nI_add (6 * k9) 1]
  refine z_sld hx hb hX hbl hbA hS ((6 * k9) + 1) rfl (by omega) hL d_L_886 ?_
  refine lv_aload_n hx hb d_L_887 rfl (lv_at hl 3 rfl) ?_
  refine lv_iload_n hx hb d_L_888 rfl (lv_at hl 0 rfl) ?_
  refine lv_iconst (v := 2) hx hb d_L_889 (by decide) ?_
  refine lv_iadd hx hb d_L_890 ?_
  rw [show (((nI (6 * k9)) + 2) : Int32) = nI ((6 * k9) + 2) from nI_add (6 * k9) 2]
  refine z_sld hx hb hX hbl hbA hS ((6 * k9) + 2) rfl (by omega) hL d_L_891 ?_
  obtain ⟨fs9, hmo⟩ := mI_obj hm
  refine z_callQ (va_runV (C := "ValueTreesModel") (As := [.int (xs ((6 * k9) + 1)), .int (xs ((6 * k9) + 2))]) (rest := [.int (a_move (xs ((6 * k9) + 1)) (xs ((6 * k9) + 2)))]) ⟨hx, hb, hml, hown, hts⟩ (p_M_move l D dT _ mm tb tc RV hm (xs ((6 * k9) + 1)) (xs ((6 * k9) + 2))) ⟨callB_of 2 hts (gI gd_lw gd_l q802) rfl rfl rfl (ht _ q10) (ht _ q799) hd_M_move ⟨Nat.le_of_ble_eq_true rfl, Nat.le_of_ble_eq_true rfl⟩, ht _ q800, ht _ q801⟩ (z_preV hK (z_recv hK hmo rfl)) rfl rfl hl.1 rfl (lv_room (Nat.le_of_ble_eq_true rfl)) d_L_892 ⟨by show cells + 0 + 0 ≤ 600000; omega, by show slots + 0 + 0 ≤ 7302250; omega⟩) hS (fun q9 h9 => by obtain ⟨k, hk, e9⟩ := h9; rw [e9]; exact (hmm k hk).2.2.2.2) (fun v6 H locs hv5 hz7 hf8 hS => ?_)
  obtain ⟨rfl, hm⟩ := hv5
  have hC := hC.keepM hz7 hf8 (fun k hk => (hmm k hk).1) (fun k hk => (hmm k hk).2.1) (fun k hk => (hmm k hk).2.2.1) (fun k hk => (hmm k hk).2.2.2.1)
  refine W.eq (g2 := F0 m 895 ls [.int (a_move (xs ((6 * k9) + 1)) (xs ((6 * k9) + 2))), .int (a_move (xs ((6 * k9) + 1)) (xs ((6 * k9) + 2)))]) rfl ?_
  refine lv_icmp_eq (tgt := 1170) hx hb d_L_895 (by decide) (fun _ => ?_) (fun h9 => absurd rfl h9)
  refine W.widen (k := cells + 5) (n := slots + 3100) (by omega) (by omega) ?_
  exact kk _ _ ls hl hS ⟨B, ed, _, _, _, hC, hm, hmm, hrg0, hli0, hed0⟩
