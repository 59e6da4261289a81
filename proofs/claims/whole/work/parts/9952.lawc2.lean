theorem d_L_546 : decode code 546 = .ok (.aload_n 1, 1) := by decide +kernel
theorem d_L_547 : decode code 547 = .ok (.aload_n 0, 1) := by decide +kernel
theorem d_L_548 : decode code 548 = .ok (.iload_n 3, 1) := by decide +kernel
theorem d_L_549 : decode code 549 = .ok (.iconst 1, 1) := by decide +kernel
theorem d_L_550 : decode code 550 = .ok (.iadd, 1) := by decide +kernel
theorem d_L_551 : decode code 551 = .ok (.iaload, 1) := by decide +kernel
theorem d_L_552 : decode code 552 = .ok (.aload_n 0, 1) := by decide +kernel
theorem d_L_553 : decode code 553 = .ok (.iload_n 3, 1) := by decide +kernel
theorem d_L_554 : decode code 554 = .ok (.iconst 2, 1) := by decide +kernel
theorem d_L_555 : decode code 555 = .ok (.iadd, 1) := by decide +kernel
theorem d_L_556 : decode code 556 = .ok (.iaload, 1) := by decide +kernel
theorem d_L_557 : decode code 557 = .ok (.aload_n 0, 1) := by decide +kernel
theorem d_L_558 : decode code 558 = .ok (.iload_n 3, 1) := by decide +kernel
theorem d_L_559 : decode code 559 = .ok (.iconst 3, 1) := by decide +kernel
theorem d_L_560 : decode code 560 = .ok (.iadd, 1) := by decide +kernel
theorem d_L_561 : decode code 561 = .ok (.iaload, 1) := by decide +kernel
theorem d_L_562 : decode code 562 = .ok (.invokevirtual 52, 3) := by decide +kernel
theorem d_L_565 : decode code 565 = .ok (.aload_n 2, 1) := by decide +kernel
theorem d_L_566 : decode code 566 = .ok (.aload_n 0, 1) := by decide +kernel
theorem d_L_567 : decode code 567 = .ok (.iload_n 3, 1) := by decide +kernel
theorem d_L_568 : decode code 568 = .ok (.iconst 1, 1) := by decide +kernel
theorem d_L_569 : decode code 569 = .ok (.iadd, 1) := by decide +kernel
theorem d_L_570 : decode code 570 = .ok (.iaload, 1) := by decide +kernel
theorem d_L_571 : decode code 571 = .ok (.aload_n 0, 1) := by decide +kernel
theorem d_L_572 : decode code 572 = .ok (.iload_n 3, 1) := by decide +kernel
theorem d_L_573 : decode code 573 = .ok (.iconst 2, 1) := by decide +kernel
theorem d_L_574 : decode code 574 = .ok (.iadd, 1) := by decide +kernel
theorem d_L_575 : decode code 575 = .ok (.iaload, 1) := by decide +kernel
theorem d_L_576 : decode code 576 = .ok (.aload_n 0, 1) := by decide +kernel
theorem d_L_577 : decode code 577 = .ok (.iload_n 3, 1) := by decide +kernel
theorem d_L_578 : decode code 578 = .ok (.iconst 3, 1) := by decide +kernel
theorem d_L_579 : decode code 579 = .ok (.iadd, 1) := by decide +kernel
theorem d_L_580 : decode code 580 = .ok (.iaload, 1) := by decide +kernel
theorem d_L_581 : decode code 581 = .ok (.invokevirtual 55, 3) := by decide +kernel
theorem d_L_584 : decode code 584 = .ok (.if_icmp .eq 586, 3) := by decide +kernel
theorem d_L_587 : decode code 587 = .ok (.iconst 0, 1) := by decide +kernel
theorem d_L_588 : decode code 588 = .ok (.ireturn, 1) := by decide +kernel
set_option maxHeartbeats 4000000 in
set_option maxRecDepth 100000 in
theorem law_c8 (l : Launch) {p : Program} {e : Env} {s : State} {m : MethodId} {below : List Frame} {meth : Method} {c : Code} {b L : Nat} {xs : Nat → Int32} (hL : L ≤ 3072) (C0 : lw_At p s m meth c b L xs) (D : va_G) (dT : Nat → ClassId) (hK : z_K D dT s) (vv rg li : Nat) (mm : Nat → Nat) (k9 : Nat) (hk9 : 6 * k9 + 6 ≤ L) (H : Heap) (locs : List Loc) (cells slots : Nat) (ls : Array Slot) (hl : lv_has ls 4 [(3, .int (nI (6 * k9))), (2, .ref (mm 0)), (1, .ref vv), (0, .ref b)]) (hS : va_S (fun q => s.heap.size ≤ q) s.heap H locs) (hI : lI D dT s.heap.size vv rg li mm H) (hc : cells + 5 ≤ 600000) (hs : slots + 3100 ≤ 7302250) (kk : ∀ (H : Heap) (locs : List Loc) (ls : Array Slot), lv_has ls 4 [(3, .int (nI (6 * k9))), (2, .ref (mm 0)), (1, .ref vv), (0, .ref b)] → va_S (fun q => s.heap.size ≤ q) s.heap H locs → lI D dT s.heap.size vv rg li mm H → W p l e room_1 s m #[Value.ref b] below meth c H locs (cells + 5) (slots + 3100) (lw_Z below #[Value.ref b] s) (F0 m 1170 ls [])) : W p l e room_1 s m #[Value.ref b] below meth c H locs (cells) (slots) (lw_Z below #[Value.ref b] s) (F0 m 546 ls []) := by
  obtain ⟨hx, hb, hr, hml, hown, hts, hX, hbl, hlocks, hgv⟩ := C0
  have hown : s.vm.findClass "ValueTreesLaw" = some m.cls := hown
  have ht : ∀ w ∈ gt, w.before #[Value.ref b] s = true := fun w h => hts w (gt_in h)
  have hbA : ¬ (fun q => s.heap.size ≤ q) b := Nat.not_le.mpr hbl
  obtain ⟨B, ed, tb, tc, RV, hC, hm, hmm, hrg0, hli0, hed0⟩ := hI
  have hV := mI_vOK hm
  refine lv_aload_n hx hb d_L_546 rfl (lv_at hl 2 rfl) ?_
  refine lv_aload_n hx hb d_L_547 rfl (lv_at hl 3 rfl) ?_
  refine lv_iload_n hx hb d_L_548 rfl (lv_at hl 0 rfl) ?_
  refine lv_iconst (v := 1) hx hb d_L_549 (by decide) ?_
  refine lv_iadd hx hb d_L_550 ?_
  rw [show (((nI (6 * k9)) + 1) : Int32) = nI ((6 * k9) + 1) from nI_add (6 * k9) 1]
  refine z_sld hx hb hX hbl hbA hS ((6 * k9) + 1) rfl (by omega) hL d_L_551 ?_
  refine lv_aload_n hx hb d_L_552 rfl (lv_at hl 3 rfl) ?_
  refine lv_iload_n hx hb d_L_553 rfl (lv_at hl 0 rfl) ?_
  refine lv_iconst (v := 2) hx hb d_L_554 (by decide) ?_
  refine lv_iadd hx hb d_L_555 ?_
  rw [show (((nI (6 * k9)) + 2) : Int32) = nI ((6 * k9) + 2) from nI_add (6 * k9) 2]
  refine z_sld hx hb hX hbl hbA hS ((6 * k9) + 2) rfl (by omega) hL d_L_556 ?_
  refine lv_aload_n hx hb d_L_557 rfl (lv_at hl 3 rfl) ?_
  refine lv_iload_n hx hb d_L_558 rfl (lv_at hl 0 rfl) ?_
  refine lv_iconst (v := 3) hx hb d_L_559 (by decide) ?_
  refine lv_iadd hx hb d_L_560 ?_
  rw [show (((nI (6 * k9)) + 3) : Int32) = nI ((6 * k9) + 3) from nI_add (6 * k9) 3]
  refine z_sld hx hb hX hbl hbA hS ((6 * k9) + 3) rfl (by omega) hL d_L_561 ?_
  have hSp := hS
  have hlt9 := fun (k : Nat) (hk : k < 10) => mI_lt hm hk
  refine z_callQ (va_runV (C := "ValueTrees") (As := [.int (xs ((6 * k9) + 1)), .int (xs ((6 * k9) + 2)), .int (xs ((6 * k9) + 3))]) (rest := []) ⟨hx, hb, hml, hown, hts⟩ (p_V_pair l D dT _ B vv rg li ed tb tc RV hC hV (xs ((6 * k9) + 1)) (xs ((6 * k9) + 2)) (xs ((6 * k9) + 3))) ⟨callB_of 3 hts (gI gd_lw gd_l q383) rfl rfl rfl (ht _ q1) (ht _ q380) hd_V_pair ⟨Nat.le_of_ble_eq_true rfl, Nat.le_of_ble_eq_true rfl⟩, ht _ q381, ht _ q382⟩ (z_preV hK (va_recv hK.1 (z_1 hC.2.1) (ci := 0) (q0 := 0) rfl rfl)) rfl rfl hl.1 rfl (lv_room (Nat.le_of_ble_eq_true rfl)) d_L_562 ⟨by show cells + 3 ≤ 600000; omega, by show slots + 3009 ≤ 7302250; omega⟩) hS (fun q9 h9 => h9.elim (fun e9 => by rw [e9]; exact hrg0) (fun h9 => h9.elim (fun e9 => by rw [e9]; exact hli0) (fun h9 => h9.elim (fun e9 => by rw [e9]; exact hed0) (fun h8 => Nat.le_trans hSp.1 h8)))) (fun v2 H locs hv1 hz3 hf4 hS => ?_)
  obtain ⟨rfl, B2, ed2, he2, hB1, hB2, hC⟩ := hv1
  have hm := hm.keep (fun k hk => hf4 _ (hlt9 k hk) (fun h9 => h9.elim (hmm k hk).2.1 (fun h9 => h9.elim (hmm k hk).2.2.1 (fun h8 => h8.elim (hmm k hk).2.2.2.1 (Nat.not_le.mpr (hlt9 k hk))))))
  have hmm : ∀ k, k < 10 → B2 (mm k) ∧ mm k ≠ rg ∧ mm k ≠ li ∧ mm k ≠ ed2 ∧ s.heap.size ≤ mm k := fun k hk => ⟨hB1 _ (hmm k hk).1, (hmm k hk).2.1, (hmm k hk).2.2.1, fun e9 => he2.elim (fun e8 => (hmm k hk).2.2.2.1 (e9.trans e8)) (fun h8 => absurd (hlt9 k hk) (Nat.not_lt.mpr (by rw [e9]; exact h8))), (hmm k hk).2.2.2.2⟩
  have hed0 : s.heap.size ≤ ed2 := he2.elim (fun e8 => by rw [e8]; exact hed0) (fun h8 => Nat.le_trans hSp.1 h8)
  refine W.eq (g2 := F0 m 565 ls [.int ((a_pair tb tc RV (xs ((6 * k9) + 1)) (xs ((6 * k9) + 2)) (xs ((6 * k9) + 3))).1)]) rfl ?_
  refine lv_aload_n hx hb d_L_565 rfl (lv_at hl 1 rfl) ?_
  refine lv_aload_n hx hb d_L_566 rfl (lv_at hl 3 rfl) ?_
  refine lv_iload_n hx hb d_L_567 rfl (lv_at hl 0 rfl) ?_
  refine lv_iconst (v := 1) hx hb d_L_568 (by decide) ?_
  refine lv_iadd hx hb d_L_569 ?_
  rw [show (((nI (6 * k9)) + 1) : Int32) = nI ((6 * k9) + 1) from nI_add (6 * k9) 1]
  refine z_sld hx hb hX hbl hbA hS ((6 * k9) + 1) rfl (by omega) hL d_L_570 ?_
  refine lv_aload_n hx hb d_L_571 rfl (lv_at hl 3 rfl) ?_
  refine lv_iload_n hx hb d_L_572 rfl (lv_at hl 0 rfl) ?_
  refine lv_iconst (v := 2) hx hb d_L_573 (by decide) ?_
  refine lv_iadd hx hb d_L_574 ?_
  rw [show (((nI (6 * k9)) + 2) : Int32) = nI ((6 * k9) + 2) from nI_add (6 * k9) 2]
  refine z_sld hx hb hX hbl hbA hS ((6 * k9) + 2) rfl (by omega) hL d_L_575 ?_
  refine lv_aload_n hx hb d_L_576 rfl (lv_at hl 3 rfl) ?_
  refine lv_iload_n hx hb d_L_577 rfl (lv_at hl 0 rfl) ?_
  refine lv_iconst (v := 3) hx hb d_L_578 (by decide) ?_
  refine lv_iadd hx hb d_L_579 ?_
  rw [show (((nI (6 * k9)) + 3) : Int32) = nI ((6 * k9) + 3) from nI_add (6 * k9) 3]
  refine z_sld hx hb hX hbl hbA hS ((6 * k9) + 3) rfl (by omega) hL d_L_580 ?_
  obtain ⟨fs9, hmo⟩ := mI_obj hm
  refine z_callQ (va_runV (C := "ValueTreesModel") (As := [.int (xs ((6 * k9) + 1)), .int (xs ((6 * k9) + 2)), .int (xs ((6 * k9) + 3))]) (rest := [.int ((a_pair tb tc RV (xs ((6 * k9) + 1)) (xs ((6 * k9) + 2)) (xs ((6 * k9) + 3))).1)]) ⟨hx, hb, hml, hown, hts⟩ (p_M_pair l D dT _ mm tb tc RV hm (xs ((6 * k9) + 1)) (xs ((6 * k9) + 2)) (xs ((6 * k9) + 3))) ⟨callB_of 3 hts (gI gd_lw gd_l q711) rfl rfl rfl (ht _ q10) (ht _ q708) hd_M_pair ⟨Nat.le_of_ble_eq_true rfl, Nat.le_of_ble_eq_true rfl⟩, ht _ q709, ht _ q710⟩ (z_preV hK (z_recv hK hmo rfl)) rfl rfl hl.1 rfl (lv_room (Nat.le_of_ble_eq_true rfl)) d_L_581 ⟨by show cells + 3 + 0 ≤ 600000; omega, by show slots + 3009 + 0 ≤ 7302250; omega⟩) hS (fun q9 h9 => by obtain ⟨k, hk, e9⟩ := h9; rw [e9]; exact (hmm k hk).2.2.2.2) (fun v6 H locs hv5 hz7 hf8 hS => ?_)
  obtain ⟨rfl, hm⟩ := hv5
  have hC := hC.keepM hz7 hf8 (fun k hk => (hmm k hk).1) (fun k hk => (hmm k hk).2.1) (fun k hk => (hmm k hk).2.2.1) (fun k hk => (hmm k hk).2.2.2.1)
  refine W.eq (g2 := F0 m 584 ls [.int ((a_pair tb tc RV (xs ((6 * k9) + 1)) (xs ((6 * k9) + 2)) (xs ((6 * k9) + 3))).1), .int ((a_pair tb tc RV (xs ((6 * k9) + 1)) (xs ((6 * k9) + 2)) (xs ((6 * k9) + 3))).1)]) rfl ?_
  refine lv_icmp_eq (tgt := 1170) hx hb d_L_584 (by decide) (fun _ => ?_) (fun h9 => absurd rfl h9)
  refine W.widen (k := cells + 5) (n := slots + 3100) (by omega) (by omega) ?_
  exact kk _ _ ls hl hS ⟨B2, ed2, _, _, _, hC, hm, hmm, hrg0, hli0, hed0⟩
theorem d_L_589 : decode code 589 = .ok (.aload_n 1, 1) := by decide +kernel
theorem d_L_590 : decode code 590 = .ok (.aload_n 0, 1) := by decide +kernel
theorem d_L_591 : decode code 591 = .ok (.iload_n 3, 1) := by decide +kernel
theorem d_L_592 : decode code 592 = .ok (.iconst 1, 1) := by decide +kernel
theorem d_L_593 : decode code 593 = .ok (.iadd, 1) := by decide +kernel
theorem d_L_594 : decode code 594 = .ok (.iaload, 1) := by decide +kernel
theorem d_L_595 : decode code 595 = .ok (.aload_n 0, 1) := by decide +kernel
theorem d_L_596 : decode code 596 = .ok (.iload_n 3, 1) := by decide +kernel
theorem d_L_597 : decode code 597 = .ok (.iconst 2, 1) := by decide +kernel
theorem d_L_598 : decode code 598 = .ok (.iadd, 1) := by decide +kernel
theorem d_L_599 : decode code 599 = .ok (.iaload, 1) := by decide +kernel
theorem d_L_600 : decode code 600 = .ok (.aload_n 0, 1) := by decide +kernel
theorem d_L_601 : decode code 601 = .ok (.iload_n 3, 1) := by decide +kernel
theorem d_L_602 : decode code 602 = .ok (.iconst 3, 1) := by decide +kernel
theorem d_L_603 : decode code 603 = .ok (.iadd, 1) := by decide +kernel
theorem d_L_604 : decode code 604 = .ok (.iaload, 1) := by decide +kernel
theorem d_L_605 : decode code 605 = .ok (.invokevirtual 56, 3) := by decide +kernel
theorem d_L_608 : decode code 608 = .ok (.aload_n 2, 1) := by decide +kernel
theorem d_L_609 : decode code 609 = .ok (.aload_n 0, 1) := by decide +kernel
theorem d_L_610 : decode code 610 = .ok (.iload_n 3, 1) := by decide +kernel
theorem d_L_611 : decode code 611 = .ok (.iconst 1, 1) := by decide +kernel
theorem d_L_612 : decode code 612 = .ok (.iadd, 1) := by decide +kernel
theorem d_L_613 : decode code 613 = .ok (.iaload, 1) := by decide +kernel
theorem d_L_614 : decode code 614 = .ok (.aload_n 0, 1) := by decide +kernel
theorem d_L_615 : decode code 615 = .ok (.iload_n 3, 1) := by decide +kernel
theorem d_L_616 : decode code 616 = .ok (.iconst 2, 1) := by decide +kernel
theorem d_L_617 : decode code 617 = .ok (.iadd, 1) := by decide +kernel
theorem d_L_618 : decode code 618 = .ok (.iaload, 1) := by decide +kernel
theorem d_L_619 : decode code 619 = .ok (.aload_n 0, 1) := by decide +kernel
theorem d_L_620 : decode code 620 = .ok (.iload_n 3, 1) := by decide +kernel
theorem d_L_621 : decode code 621 = .ok (.iconst 3, 1) := by decide +kernel
theorem d_L_622 : decode code 622 = .ok (.iadd, 1) := by decide +kernel
theorem d_L_623 : decode code 623 = .ok (.iaload, 1) := by decide +kernel
theorem d_L_624 : decode code 624 = .ok (.invokevirtual 59, 3) := by decide +kernel
theorem d_L_627 : decode code 627 = .ok (.if_icmp .eq 543, 3) := by decide +kernel
theorem d_L_630 : decode code 630 = .ok (.iconst 0, 1) := by decide +kernel
theorem d_L_631 : decode code 631 = .ok (.ireturn, 1) := by decide +kernel
set_option maxHeartbeats 4000000 in
set_option maxRecDepth 100000 in
theorem law_c9 (l : Launch) {p : Program} {e : Env} {s : State} {m : MethodId} {below : List Frame} {meth : Method} {c : Code} {b L : Nat} {xs : Nat → Int32} (hL : L ≤ 3072) (C0 : lw_At p s m meth c b L xs) (D : va_G) (dT : Nat → ClassId) (hK : z_K D dT s) (vv rg li : Nat) (mm : Nat → Nat) (k9 : Nat) (hk9 : 6 * k9 + 6 ≤ L) (H : Heap) (locs : List Loc) (cells slots : Nat) (ls : Array Slot) (hl : lv_has ls 4 [(3, .int (nI (6 * k9))), (2, .ref (mm 0)), (1, .ref vv), (0, .ref b)]) (hS : va_S (fun q => s.heap.size ≤ q) s.heap H locs) (hI : lI D dT s.heap.size vv rg li mm H) (hc : cells + 5 ≤ 600000) (hs : slots + 3100 ≤ 7302250) (kk : ∀ (H : Heap) (locs : List Loc) (ls : Array Slot), lv_has ls 4 [(3, .int (nI (6 * k9))), (2, .ref (mm 0)), (1, .ref vv), (0, .ref b)] → va_S (fun q => s.heap.size ≤ q) s.heap H locs → lI D dT s.heap.size vv rg li mm H → W p l e room_1 s m #[Value.ref b] below meth c H locs (cells + 5) (slots + 3100) (lw_Z below #[Value.ref b] s) (F0 m 1170 ls [])) : W p l e room_1 s m #[Value.ref b] below meth c H locs (cells) (slots) (lw_Z below #[Value.ref b] s) (F0 m 589 ls []) := by
  obtain ⟨hx, hb, hr, hml, hown, hts, hX, hbl, hlocks, hgv⟩ := C0
  have hown : s.vm.findClass "ValueTreesLaw" = some m.cls := hown
  have ht : ∀ w ∈ gt, w.before #[Value.ref b] s = true := fun w h => hts w (gt_in h)
  have hbA : ¬ (fun q => s.heap.size ≤ q) b := Nat.not_le.mpr hbl
  obtain ⟨B, ed, tb, tc, RV, hC, hm, hmm, hrg0, hli0, hed0⟩ := hI
  have hV := mI_vOK hm
  refine lv_aload_n hx hb d_L_589 rfl (lv_at hl 2 rfl) ?_
  refine lv_aload_n hx hb d_L_590 rfl (lv_at hl 3 rfl) ?_
  refine lv_iload_n hx hb d_L_591 rfl (lv_at hl 0 rfl) ?_
  refine lv_iconst (v := 1) hx hb d_L_592 (by decide) ?_
  refine lv_iadd hx hb d_L_593 ?_
  rw [show (((nI (6 * k9)) + 1) : Int32) = nI ((6 * k9) + 1) from nI_add (6 * k9) 1]
  refine z_sld hx hb hX hbl hbA hS ((6 * k9) + 1) rfl (by omega) hL d_L_594 ?_
  refine lv_aload_n hx hb d_L_595 rfl (lv_at hl 3 rfl) ?_
  refine lv_iload_n hx hb d_L_596 rfl (lv_at hl 0 rfl) ?_
  refine lv_iconst (v := 2) hx hb d_L_597 (by decide) ?_
  refine lv_iadd hx hb d_L_598 ?_
  rw [show (((nI (6 * k9)) + 2) : Int32) = nI ((6 * k9) + 2) from nI_add (6 * k9) 2]
  refine z_sld hx hb hX hbl hbA hS ((6 * k9) + 2) rfl (by omega) hL d_L_599 ?_
  refine lv_aload_n hx hb d_L_600 rfl (lv_at hl 3 rfl) ?_
  refine lv_iload_n hx hb d_L_601 rfl (lv_at hl 0 rfl) ?_
  refine lv_iconst (v := 3) hx hb d_L_602 (by decide) ?_
  refine lv_iadd hx hb d_L_603 ?_
  rw [show (((nI (6 * k9)) + 3) : Int32) = nI ((6 * k9) + 3) from nI_add (6 * k9) 3]
  refine z_sld hx hb hX hbl hbA hS ((6 * k9) + 3) rfl (by omega) hL d_L_604 ?_
  have hSp := hS
  have hlt9 := fun (k : Nat) (hk : k < 10) => mI_lt hm hk
  refine z_callQ (va_runV (C := "ValueTrees") (As := [.int (xs ((6 * k9) + 1)), .int (xs ((6 * k9) + 2)), .int (xs ((6 * k9) + 3))]) (rest := []) ⟨hx, hb, hml, hown, hts⟩ (p_V_cons l D dT _ B vv rg li ed tb tc RV hC hV (xs ((6 * k9) + 1)) (xs ((6 * k9) + 2)) (xs ((6 * k9) + 3))) ⟨callB_of 3 hts (gI gd_lw gd_l q408) rfl rfl rfl (ht _ q1) (ht _ q405) hd_V_cons ⟨Nat.le_of_ble_eq_true rfl, Nat.le_of_ble_eq_true rfl⟩, ht _ q406, ht _ q407⟩ (z_preV hK (va_recv hK.1 (z_1 hC.2.1) (ci := 0) (q0 := 0) rfl rfl)) rfl rfl hl.1 rfl (lv_room (Nat.le_of_ble_eq_true rfl)) d_L_605 ⟨by show cells + 1 ≤ 600000; omega, by show slots + 5 ≤ 7302250; omega⟩) hS (fun q9 h9 => h9.elim (fun e9 => by rw [e9]; exact hrg0) (fun h8 => Nat.le_trans hSp.1 h8)) (fun v2 H locs hv1 hz3 hf4 hS => ?_)
  obtain ⟨rfl, hC⟩ := hv1
  have hm := hm.keep (fun k hk => hf4 _ (hlt9 k hk) (fun h9 => h9.elim (hmm k hk).2.1 (Nat.not_le.mpr (hlt9 k hk))))
  refine W.eq (g2 := F0 m 608 ls [.int ((kp RV (xs ((6 * k9) + 1)) (o_cons tb RV (xs ((6 * k9) + 2)) (xs ((6 * k9) + 3)))).1)]) rfl ?_
  refine lv_aload_n hx hb d_L_608 rfl (lv_at hl 1 rfl) ?_
  refine lv_aload_n hx hb d_L_609 rfl (lv_at hl 3 rfl) ?_
  refine lv_iload_n hx hb d_L_610 rfl (lv_at hl 0 rfl) ?_
  refine lv_iconst (v := 1) hx hb d_L_611 (by decide) ?_
  refine lv_iadd hx hb d_L_612 ?_
  rw [show (((nI (6 * k9)) + 1) : Int32) = nI ((6 * k9) + 1) from nI_add (6 * k9) 1]
  refine z_sld hx hb hX hbl hbA hS ((6 * k9) + 1) rfl (by omega) hL d_L_613 ?_
  refine lv_aload_n hx hb d_L_614 rfl (lv_at hl 3 rfl) ?_
  refine lv_iload_n hx hb d_L_615 rfl (lv_at hl 0 rfl) ?_
  refine lv_iconst (v := 2) hx hb d_L_616 (by decide) ?_
  refine lv_iadd hx hb d_L_617 ?_
  rw [show (((nI (6 * k9)) + 2) : Int32) = nI ((6 * k9) + 2) from nI_add (6 * k9) 2]
  refine z_sld hx hb hX hbl hbA hS ((6 * k9) + 2) rfl (by omega) hL d_L_618 ?_
  refine lv_aload_n hx hb d_L_619 rfl (lv_at hl 3 rfl) ?_
  refine lv_iload_n hx hb d_L_620 rfl (lv_at hl 0 rfl) ?_
  refine lv_iconst (v := 3) hx hb d_L_621 (by decide) ?_
  refine lv_iadd hx hb d_L_622 ?_
  rw [show (((nI (6 * k9)) + 3) : Int32) = nI ((6 * k9) + 3) from nI_add (6 * k9) 3]
  refine z_sld hx hb hX hbl hbA hS ((6 * k9) + 3) rfl (by omega) hL d_L_623 ?_
  obtain ⟨fs9, hmo⟩ := mI_obj hm
  refine z_callQ (va_runV (C := "ValueTreesModel") (As := [.int (xs ((6 * k9) + 1)), .int (xs ((6 * k9) + 2)), .int (xs ((6 * k9) + 3))]) (rest := [.int ((kp RV (xs ((6 * k9) + 1)) (o_cons tb RV (xs ((6 * k9) + 2)) (xs ((6 * k9) + 3)))).1)]) ⟨hx, hb, hml, hown, hts⟩ (p_M_cons l D dT _ mm tb tc RV hm (xs ((6 * k9) + 1)) (xs ((6 * k9) + 2)) (xs ((6 * k9) + 3))) ⟨callB_of 3 hts (gI gd_lw gd_l q715) rfl rfl rfl (ht _ q10) (ht _ q712) hd_M_cons ⟨Nat.le_of_ble_eq_true rfl, Nat.le_of_ble_eq_true rfl⟩, ht _ q713, ht _ q714⟩ (z_preV hK (z_recv hK hmo rfl)) rfl rfl hl.1 rfl (lv_room (Nat.le_of_ble_eq_true rfl)) d_L_624 ⟨by show cells + 1 + 0 ≤ 600000; omega, by show slots + 5 + 0 ≤ 7302250; omega⟩) hS (fun q9 h9 => by obtain ⟨k, hk, e9⟩ := h9; rw [e9]; exact (hmm k hk).2.2.2.2) (fun v6 H locs hv5 hz7 hf8 hS => ?_)
  obtain ⟨rfl, hm⟩ := hv5
  have hC := hC.keepM hz7 hf8 (fun k hk => (hmm k hk).1) (fun k hk => (hmm k hk).2.1) (fun k hk => (hmm k hk).2.2.1) (fun k hk => (hmm k hk).2.2.2.1)
  refine W.eq (g2 := F0 m 627 ls [.int ((kp RV (xs ((6 * k9) + 1)) (o_cons tb RV (xs ((6 * k9) + 2)) (xs ((6 * k9) + 3)))).1), .int ((kp RV (xs ((6 * k9) + 1)) (o_cons tb RV (xs ((6 * k9) + 2)) (xs ((6 * k9) + 3)))).1)]) rfl ?_
  refine lv_icmp_eq (tgt := 1170) hx hb d_L_627 (by decide) (fun _ => ?_) (fun h9 => absurd rfl h9)
  refine W.widen (k := cells + 5) (n := slots + 3100) (by omega) (by omega) ?_
  exact kk _ _ ls hl hS ⟨B, ed, _, _, _, hC, hm, hmm, hrg0, hli0, hed0⟩
theorem d_L_632 : decode code 632 = .ok (.aload_n 1, 1) := by decide +kernel
theorem d_L_633 : decode code 633 = .ok (.aload_n 0, 1) := by decide +kernel
theorem d_L_634 : decode code 634 = .ok (.iload_n 3, 1) := by decide +kernel
theorem d_L_635 : decode code 635 = .ok (.iconst 1, 1) := by decide +kernel
theorem d_L_636 : decode code 636 = .ok (.iadd, 1) := by decide +kernel
theorem d_L_637 : decode code 637 = .ok (.iaload, 1) := by decide +kernel
theorem d_L_638 : decode code 638 = .ok (.aload_n 0, 1) := by decide +kernel
theorem d_L_639 : decode code 639 = .ok (.iload_n 3, 1) := by decide +kernel
theorem d_L_640 : decode code 640 = .ok (.iconst 2, 1) := by decide +kernel
theorem d_L_641 : decode code 641 = .ok (.iadd, 1) := by decide +kernel
theorem d_L_642 : decode code 642 = .ok (.iaload, 1) := by decide +kernel
theorem d_L_643 : decode code 643 = .ok (.aload_n 0, 1) := by decide +kernel
theorem d_L_644 : decode code 644 = .ok (.iload_n 3, 1) := by decide +kernel
theorem d_L_645 : decode code 645 = .ok (.iconst 3, 1) := by decide +kernel
theorem d_L_646 : decode code 646 = .ok (.iadd, 1) := by decide +kernel
theorem d_L_647 : decode code 647 = .ok (.iaload, 1) := by decide +kernel
theorem d_L_648 : decode code 648 = .ok (.aload_n 0, 1) := by decide +kernel
theorem d_L_649 : decode code 649 = .ok (.iload_n 3, 1) := by decide +kernel
theorem d_L_650 : decode code 650 = .ok (.iconst 4, 1) := by decide +kernel
theorem d_L_651 : decode code 651 = .ok (.iadd, 1) := by decide +kernel
theorem d_L_652 : decode code 652 = .ok (.iaload, 1) := by decide +kernel
theorem d_L_653 : decode code 653 = .ok (.invokevirtual 60, 3) := by decide +kernel
theorem d_L_656 : decode code 656 = .ok (.aload_n 2, 1) := by decide +kernel
theorem d_L_657 : decode code 657 = .ok (.aload_n 0, 1) := by decide +kernel
theorem d_L_658 : decode code 658 = .ok (.iload_n 3, 1) := by decide +kernel
theorem d_L_659 : decode code 659 = .ok (.iconst 1, 1) := by decide +kernel
theorem d_L_660 : decode code 660 = .ok (.iadd, 1) := by decide +kernel
theorem d_L_661 : decode code 661 = .ok (.iaload, 1) := by decide +kernel
theorem d_L_662 : decode code 662 = .ok (.aload_n 0, 1) := by decide +kernel
theorem d_L_663 : decode code 663 = .ok (.iload_n 3, 1) := by decide +kernel
theorem d_L_664 : decode code 664 = .ok (.iconst 2, 1) := by decide +kernel
theorem d_L_665 : decode code 665 = .ok (.iadd, 1) := by decide +kernel
theorem d_L_666 : decode code 666 = .ok (.iaload, 1) := by decide +kernel
theorem d_L_667 : decode code 667 = .ok (.aload_n 0, 1) := by decide +kernel
theorem d_L_668 : decode code 668 = .ok (.iload_n 3, 1) := by decide +kernel
theorem d_L_669 : decode code 669 = .ok (.iconst 3, 1) := by decide +kernel
theorem d_L_670 : decode code 670 = .ok (.iadd, 1) := by decide +kernel
theorem d_L_671 : decode code 671 = .ok (.iaload, 1) := by decide +kernel
theorem d_L_672 : decode code 672 = .ok (.aload_n 0, 1) := by decide +kernel
theorem d_L_673 : decode code 673 = .ok (.iload_n 3, 1) := by decide +kernel
theorem d_L_674 : decode code 674 = .ok (.iconst 4, 1) := by decide +kernel
theorem d_L_675 : decode code 675 = .ok (.iadd, 1) := by decide +kernel
theorem d_L_676 : decode code 676 = .ok (.iaload, 1) := by decide +kernel
theorem d_L_677 : decode code 677 = .ok (.invokevirtual 63, 3) := by decide +kernel
theorem d_L_680 : decode code 680 = .ok (.if_icmp .eq 490, 3) := by decide +kernel
theorem d_L_683 : decode code 683 = .ok (.iconst 0, 1) := by decide +kernel
theorem d_L_684 : decode code 684 = .ok (.ireturn, 1) := by decide +kernel
set_option maxHeartbeats 4000000 in
set_option maxRecDepth 100000 in
theorem law_c10 (l : Launch) {p : Program} {e : Env} {s : State} {m : MethodId} {below : List Frame} {meth : Method} {c : Code} {b L : Nat} {xs : Nat → Int32} (hL : L ≤ 3072) (C0 : lw_At p s m meth c b L xs) (D : va_G) (dT : Nat → ClassId) (hK : z_K D dT s) (vv rg li : Nat) (mm : Nat → Nat) (k9 : Nat) (hk9 : 6 * k9 + 6 ≤ L) (H : Heap) (locs : List Loc) (cells slots : Nat) (ls : Array Slot) (hl : lv_has ls 4 [(3, .int (nI (6 * k9))), (2, .ref (mm 0)), (1, .ref vv), (0, .ref b)]) (hS : va_S (fun q => s.heap.size ≤ q) s.heap H locs) (hI : lI D dT s.heap.size vv rg li mm H) (hc : cells + 5 ≤ 600000) (hs : slots + 3100 ≤ 7302250) (kk : ∀ (H : Heap) (locs : List Loc) (ls : Array Slot), lv_has ls 4 [(3, .int (nI (6 * k9))), (2, .ref (mm 0)), (1, .ref vv), (0, .ref b)] → va_S (fun q => s.heap.size ≤ q) s.heap H locs → lI D dT s.heap.size vv rg li mm H → W p l e room_1 s m #[Value.ref b] below meth c H locs (cells + 5) (slots + 3100) (lw_Z below #[Value.ref b] s) (F0 m 1170 ls [])) : W p l e room_1 s m #[Value.ref b] below meth c H locs (cells) (slots) (lw_Z below #[Value.ref b] s) (F0 m 632 ls []) := by
  obtain ⟨hx, hb, hr, hml, hown, hts, hX, hbl, hlocks, hgv⟩ := C0
  have hown : s.vm.findClass "ValueTreesLaw" = some m.cls := hown
  have ht : ∀ w ∈ gt, w.before #[Value.ref b] s = true := fun w h => hts w (gt_in h)
  have hbA : ¬ (fun q => s.heap.size ≤ q) b := Nat.not_le.mpr hbl
  obtain ⟨B, ed, tb, tc, RV, hC, hm, hmm, hrg0, hli0, hed0⟩ := hI
  have hV := mI_vOK hm
  refine lv_aload_n hx hb d_L_632 rfl (lv_at hl 2 rfl) ?_
  refine lv_aload_n hx hb d_L_633 rfl (lv_at hl 3 rfl) ?_
  refine lv_iload_n hx hb d_L_634 rfl (lv_at hl 0 rfl) ?_
  refine lv_iconst (v := 1) hx hb d_L_635 (by decide) ?_
  refine lv_iadd hx hb d_L_636 ?_
  rw [show (((nI (6 * k9)) + 1) : Int32) = nI ((6 * k9) + 1) from nI_add (6 * k9) 1]
  refine z_sld hx hb hX hbl hbA hS ((6 * k9) + 1) rfl (by omega) hL d_L_637 ?_
  refine lv_aload_n hx hb d_L_638 rfl (lv_at hl 3 rfl) ?_
  refine lv_iload_n hx hb d_L_639 rfl (lv_at hl 0 rfl) ?_
  refine lv_iconst (v := 2) hx hb d_L_640 (by decide) ?_
  refine lv_iadd hx hb d_L_641 ?_
  rw [show (((nI (6 * k9)) + 2) : Int32) = nI ((6 * k9) + 2) from nI_add (6 * k9) 2]
  refine z_sld hx hb hX hbl hbA hS ((6 * k9) + 2) rfl (by omega) hL d_L_642 ?_
  refine lv_aload_n hx hb d_L_643 rfl (lv_at hl 3 rfl) ?_
  refine lv_iload_n hx hb d_L_644 rfl (lv_at hl 0 rfl) ?_
  refine lv_iconst (v := 3) hx hb d_L_645 (by decide) ?_
  refine lv_iadd hx hb d_L_646 ?_
  rw [show (((nI (6 * k9)) + 3) : Int32) = nI ((6 * k9) + 3) from nI_add (6 * k9) 3]
  refine z_sld hx hb hX hbl hbA hS ((6 * k9) + 3) rfl (by omega) hL d_L_647 ?_
  refine lv_aload_n hx hb d_L_648 rfl (lv_at hl 3 rfl) ?_
  refine lv_iload_n hx hb d_L_649 rfl (lv_at hl 0 rfl) ?_
  refine lv_iconst (v := 4) hx hb d_L_650 (by decide) ?_
  refine lv_iadd hx hb d_L_651 ?_
  rw [show (((nI (6 * k9)) + 4) : Int32) = nI ((6 * k9) + 4) from nI_add (6 * k9) 4]
  refine z_sld hx hb hX hbl hbA hS ((6 * k9) + 4) rfl (by omega) hL d_L_652 ?_
  have hSp := hS
  have hlt9 := fun (k : Nat) (hk : k < 10) => mI_lt hm hk
  refine z_callQ (va_runV (C := "ValueTrees") (As := [.int (xs ((6 * k9) + 1)), .int (xs ((6 * k9) + 2)), .int (xs ((6 * k9) + 3)), .int (xs ((6 * k9) + 4))]) (rest := []) ⟨hx, hb, hml, hown, hts⟩ (p_V_put l D dT _ B vv rg li ed tb tc RV hC hV (xs ((6 * k9) + 1)) (xs ((6 * k9) + 2)) (xs ((6 * k9) + 3)) (xs ((6 * k9) + 4))) ⟨callB_of 4 hts (gI gd_lw gd_l q415) rfl rfl rfl (ht _ q1) (ht _ q412) hd_V_put ⟨Nat.le_of_ble_eq_true rfl, Nat.le_of_ble_eq_true rfl⟩, ht _ q413, ht _ q414⟩ (z_preV hK (va_recv hK.1 (z_1 hC.2.1) (ci := 0) (q0 := 0) rfl rfl)) rfl rfl hl.1 rfl (lv_room (Nat.le_of_ble_eq_true rfl)) d_L_653 ⟨by show cells + 5 ≤ 600000; omega, by show slots + 203 ≤ 7302250; omega⟩) hS (fun q9 h9 => h9.elim (fun e9 => by rw [e9]; exact hrg0) (fun h8 => Nat.le_trans hSp.1 h8)) (fun v2 H locs hv1 hz3 hf4 hS => ?_)
  obtain ⟨rfl, hC⟩ := hv1
  have hm := hm.keep (fun k hk => hf4 _ (hlt9 k hk) (fun h9 => h9.elim (hmm k hk).2.1 (Nat.not_le.mpr (hlt9 k hk))))
  refine W.eq (g2 := F0 m 656 ls [.int ((kp RV (xs ((6 * k9) + 1)) (o_put tb RV (xs ((6 * k9) + 2)) (xs ((6 * k9) + 3)) (xs ((6 * k9) + 4)))).1)]) rfl ?_
  refine lv_aload_n hx hb d_L_656 rfl (lv_at hl 1 rfl) ?_
  refine lv_aload_n hx hb d_L_657 rfl (lv_at hl 3 rfl) ?_
  refine lv_iload_n hx hb d_L_658 rfl (lv_at hl 0 rfl) ?_
  refine lv_iconst (v := 1) hx hb d_L_659 (by decide) ?_
  refine lv_iadd hx hb d_L_660 ?_
  rw [show (((nI (6 * k9)) + 1) : Int32) = nI ((6 * k9) + 1) from nI_add (6 * k9) 1]
  refine z_sld hx hb hX hbl hbA hS ((6 * k9) + 1) rfl (by omega) hL d_L_661 ?_
  refine lv_aload_n hx hb d_L_662 rfl (lv_at hl 3 rfl) ?_
  refine lv_iload_n hx hb d_L_663 rfl (lv_at hl 0 rfl) ?_
  refine lv_iconst (v := 2) hx hb d_L_664 (by decide) ?_
  refine lv_iadd hx hb d_L_665 ?_
  rw [show (((nI (6 * k9)) + 2) : Int32) = nI ((6 * k9) + 2) from nI_add (6 * k9) 2]
  refine z_sld hx hb hX hbl hbA hS ((6 * k9) + 2) rfl (by omega) hL d_L_666 ?_
  refine lv_aload_n hx hb d_L_667 rfl (lv_at hl 3 rfl) ?_
  refine lv_iload_n hx hb d_L_668 rfl (lv_at hl 0 rfl) ?_
  refine lv_iconst (v := 3) hx hb d_L_669 (by decide) ?_
  refine lv_iadd hx hb d_L_670 ?_
  rw [show (((nI (6 * k9)) + 3) : Int32) = nI ((6 * k9) + 3) from nI_add (6 * k9) 3]
  refine z_sld hx hb hX hbl hbA hS ((6 * k9) + 3) rfl (by omega) hL d_L_671 ?_
  refine lv_aload_n hx hb d_L_672 rfl (lv_at hl 3 rfl) ?_
  refine lv_iload_n hx hb d_L_673 rfl (lv_at hl 0 rfl) ?_
  refine lv_iconst (v := 4) hx hb d_L_674 (by decide) ?_
  refine lv_iadd hx hb d_L_675 ?_
  rw [show (((nI (6 * k9)) + 4) : Int32) = nI ((6 * k9) + 4) from nI_add (6 * k9) 4]
  refine z_sld hx hb hX hbl hbA hS ((6 * k9) + 4) rfl (by omega) hL d_L_676 ?_
  obtain ⟨fs9, hmo⟩ := mI_obj hm
  refine z_callQ (va_runV (C := "ValueTreesModel") (As := [.int (xs ((6 * k9) + 1)), .int (xs ((6 * k9) + 2)), .int (xs ((6 * k9) + 3)), .int (xs ((6 * k9) + 4))]) (rest := [.int ((kp RV (xs ((6 * k9) + 1)) (o_put tb RV (xs ((6 * k9) + 2)) (xs ((6 * k9) + 3)) (xs ((6 * k9) + 4)))).1)]) ⟨hx, hb, hml, hown, hts⟩ (p_M_put l D dT _ mm tb tc RV hm (xs ((6 * k9) + 1)) (xs ((6 * k9) + 2)) (xs ((6 * k9) + 3)) (xs ((6 * k9) + 4))) ⟨callB_of 4 hts (gI gd_lw gd_l q719) rfl rfl rfl (ht _ q10) (ht _ q716) hd_M_put ⟨Nat.le_of_ble_eq_true rfl, Nat.le_of_ble_eq_true rfl⟩, ht _ q717, ht _ q718⟩ (z_preV hK (z_recv hK hmo rfl)) rfl rfl hl.1 rfl (lv_room (Nat.le_of_ble_eq_true rfl)) d_L_677 ⟨by show cells + 5 + 0 ≤ 600000; omega, by show slots + 203 + 0 ≤ 7302250; omega⟩) hS (fun q9 h9 => by obtain ⟨k, hk, e9⟩ := h9; rw [e9]; exact (hmm k hk).2.2.2.2) (fun v6 H locs hv5 hz7 hf8 hS => ?_)
  obtain ⟨rfl, hm⟩ := hv5
  have hC := hC.keepM hz7 hf8 (fun k hk => (hmm k hk).1) (fun k hk => (hmm k hk).2.1) (fun k hk => (hmm k hk).2.2.1) (fun k hk => (hmm k hk).2.2.2.1)
  refine W.eq (g2 := F0 m 680 ls [.int ((kp RV (xs ((6 * k9) + 1)) (o_put tb RV (xs ((6 * k9) + 2)) (xs ((6 * k9) + 3)) (xs ((6 * k9) + 4)))).1), .int ((kp RV (xs ((6 * k9) + 1)) (o_put tb RV (xs ((6 * k9) + 2)) (xs ((6 * k9) + 3)) (xs ((6 * k9) + 4)))).1)]) rfl ?_
  refine lv_icmp_eq (tgt := 1170) hx hb d_L_680 (by decide) (fun _ => ?_) (fun h9 => absurd rfl h9)
  refine W.widen (k := cells + 5) (n := slots + 3100) (by omega) (by omega) ?_
  exact kk _ _ ls hl hS ⟨B, ed, _, _, _, hC, hm, hmm, hrg0, hli0, hed0⟩
theorem d_L_685 : decode code 685 = .ok (.aload_n 1, 1) := by decide +kernel
theorem d_L_686 : decode code 686 = .ok (.aload_n 0, 1) := by decide +kernel
theorem d_L_687 : decode code 687 = .ok (.iload_n 3, 1) := by decide +kernel
theorem d_L_688 : decode code 688 = .ok (.iconst 1, 1) := by decide +kernel
theorem d_L_689 : decode code 689 = .ok (.iadd, 1) := by decide +kernel
theorem d_L_690 : decode code 690 = .ok (.iaload, 1) := by decide +kernel
theorem d_L_691 : decode code 691 = .ok (.aload_n 0, 1) := by decide +kernel
theorem d_L_692 : decode code 692 = .ok (.iload_n 3, 1) := by decide +kernel
theorem d_L_693 : decode code 693 = .ok (.iconst 2, 1) := by decide +kernel
theorem d_L_694 : decode code 694 = .ok (.iadd, 1) := by decide +kernel
theorem d_L_695 : decode code 695 = .ok (.iaload, 1) := by decide +kernel
theorem d_L_696 : decode code 696 = .ok (.aload_n 0, 1) := by decide +kernel
theorem d_L_697 : decode code 697 = .ok (.iload_n 3, 1) := by decide +kernel
theorem d_L_698 : decode code 698 = .ok (.iconst 3, 1) := by decide +kernel
theorem d_L_699 : decode code 699 = .ok (.iadd, 1) := by decide +kernel
theorem d_L_700 : decode code 700 = .ok (.iaload, 1) := by decide +kernel
theorem d_L_701 : decode code 701 = .ok (.invokevirtual 64, 3) := by decide +kernel
theorem d_L_704 : decode code 704 = .ok (.aload_n 2, 1) := by decide +kernel
theorem d_L_705 : decode code 705 = .ok (.aload_n 0, 1) := by decide +kernel
theorem d_L_706 : decode code 706 = .ok (.iload_n 3, 1) := by decide +kernel
theorem d_L_707 : decode code 707 = .ok (.iconst 1, 1) := by decide +kernel
theorem d_L_708 : decode code 708 = .ok (.iadd, 1) := by decide +kernel
theorem d_L_709 : decode code 709 = .ok (.iaload, 1) := by decide +kernel
theorem d_L_710 : decode code 710 = .ok (.aload_n 0, 1) := by decide +kernel
theorem d_L_711 : decode code 711 = .ok (.iload_n 3, 1) := by decide +kernel
theorem d_L_712 : decode code 712 = .ok (.iconst 2, 1) := by decide +kernel
theorem d_L_713 : decode code 713 = .ok (.iadd, 1) := by decide +kernel
theorem d_L_714 : decode code 714 = .ok (.iaload, 1) := by decide +kernel
theorem d_L_715 : decode code 715 = .ok (.aload_n 0, 1) := by decide +kernel
theorem d_L_716 : decode code 716 = .ok (.iload_n 3, 1) := by decide +kernel
theorem d_L_717 : decode code 717 = .ok (.iconst 3, 1) := by decide +kernel
theorem d_L_718 : decode code 718 = .ok (.iadd, 1) := by decide +kernel
theorem d_L_719 : decode code 719 = .ok (.iaload, 1) := by decide +kernel
theorem d_L_720 : decode code 720 = .ok (.invokevirtual 67, 3) := by decide +kernel
theorem d_L_723 : decode code 723 = .ok (.if_icmp .eq 447, 3) := by decide +kernel
theorem d_L_726 : decode code 726 = .ok (.iconst 0, 1) := by decide +kernel
theorem d_L_727 : decode code 727 = .ok (.ireturn, 1) := by decide +kernel
set_option maxHeartbeats 4000000 in
set_option maxRecDepth 100000 in
theorem law_c11 (l : Launch) {p : Program} {e : Env} {s : State} {m : MethodId} {below : List Frame} {meth : Method} {c : Code} {b L : Nat} {xs : Nat → Int32} (hL : L ≤ 3072) (C0 : lw_At p s m meth c b L xs) (D : va_G) (dT : Nat → ClassId) (hK : z_K D dT s) (vv rg li : Nat) (mm : Nat → Nat) (k9 : Nat) (hk9 : 6 * k9 + 6 ≤ L) (H : Heap) (locs : List Loc) (cells slots : Nat) (ls : Array Slot) (hl : lv_has ls 4 [(3, .int (nI (6 * k9))), (2, .ref (mm 0)), (1, .ref vv), (0, .ref b)]) (hS : va_S (fun q => s.heap.size ≤ q) s.heap H locs) (hI : lI D dT s.heap.size vv rg li mm H) (hc : cells + 5 ≤ 600000) (hs : slots + 3100 ≤ 7302250) (kk : ∀ (H : Heap) (locs : List Loc) (ls : Array Slot), lv_has ls 4 [(3, .int (nI (6 * k9))), (2, .ref (mm 0)), (1, .ref vv), (0, .ref b)] → va_S (fun q => s.heap.size ≤ q) s.heap H locs → lI D dT s.heap.size vv rg li mm H → W p l e room_1 s m #[Value.ref b] below meth c H locs (cells + 5) (slots + 3100) (lw_Z below #[Value.ref b] s) (F0 m 1170 ls [])) : W p l e room_1 s m #[Value.ref b] below meth c H locs (cells) (slots) (lw_Z below #[Value.ref b] s) (F0 m 685 ls []) := by
  obtain ⟨hx, hb, hr, hml, hown, hts, hX, hbl, hlocks, hgv⟩ := C0
  have hown : s.vm.findClass "ValueTreesLaw" = some m.cls := hown
  have ht : ∀ w ∈ gt, w.before #[Value.ref b] s = true := fun w h => hts w (gt_in h)
  have hbA : ¬ (fun q => s.heap.size ≤ q) b := Nat.not_le.mpr hbl
  obtain ⟨B, ed, tb, tc, RV, hC, hm, hmm, hrg0, hli0, hed0⟩ := hI
  have hV := mI_vOK hm
  refine lv_aload_n hx hb d_L_685 rfl (lv_at hl 2 rfl) ?_
  refine lv_aload_n hx hb d_L_686 rfl (lv_at hl 3 rfl) ?_
  refine lv_iload_n hx hb d_L_687 rfl (lv_at hl 0 rfl) ?_
  refine lv_iconst (v := 1) hx hb d_L_688 (by decide) ?_
  refine lv_iadd hx hb d_L_689 ?_
  rw [show (((nI (6 * k9)) + 1) : Int32) = nI ((6 * k9) + 1) from nI_add (6 * k9) 1]
  refine z_sld hx hb hX hbl hbA hS ((6 * k9) + 1) rfl (by omega) hL d_L_690 ?_
  refine lv_aload_n hx hb d_L_691 rfl (lv_at hl 3 rfl) ?_
  refine lv_iload_n hx hb d_L_692 rfl (lv_at hl 0 rfl) ?_
  refine lv_iconst (v := 2) hx hb d_L_693 (by decide) ?_
  refine lv_iadd hx hb d_L_694 ?_
  rw [show (((nI (6 * k9)) + 2) : Int32) = nI ((6 * k9) + 2) from nI_add (6 * k9) 2]
  refine z_sld hx hb hX hbl hbA hS ((6 * k9) + 2) rfl (by omega) hL d_L_695 ?_
  refine lv_aload_n hx hb d_L_696 rfl (lv_at hl 3 rfl) ?_
  refine lv_iload_n hx hb d_L_697 rfl (lv_at hl 0 rfl) ?_
  refine lv_iconst (v := 3) hx hb d_L_698 (by decide) ?_
  refine lv_iadd hx hb d_L_699 ?_
  rw [show (((nI (6 * k9)) + 3) : Int32) = nI ((6 * k9) + 3) from nI_add (6 * k9) 3]
  refine z_sld hx hb hX hbl hbA hS ((6 * k9) + 3) rfl (by omega) hL d_L_700 ?_
  have hSp := hS
  have hlt9 := fun (k : Nat) (hk : k < 10) => mI_lt hm hk
  refine z_callQ (va_runV (C := "ValueTrees") (As := [.int (xs ((6 * k9) + 1)), .int (xs ((6 * k9) + 2)), .int (xs ((6 * k9) + 3))]) (rest := []) ⟨hx, hb, hml, hown, hts⟩ (p_V_remove l D dT _ B vv rg li ed tb tc RV hC hV (xs ((6 * k9) + 1)) (xs ((6 * k9) + 2)) (xs ((6 * k9) + 3))) ⟨callB_of 3 hts (gI gd_lw gd_l q473) rfl rfl rfl (ht _ q1) (ht _ q470) hd_V_remove ⟨Nat.le_of_ble_eq_true rfl, Nat.le_of_ble_eq_true rfl⟩, ht _ q471, ht _ q472⟩ (z_preV hK (va_recv hK.1 (z_1 hC.2.1) (ci := 0) (q0 := 0) rfl rfl)) rfl rfl hl.1 rfl (lv_room (Nat.le_of_ble_eq_true rfl)) d_L_701 ⟨by show cells + 2 ≤ 600000; omega, by show slots + 90 ≤ 7302250; omega⟩) hS (fun q9 h9 => h9.elim (fun e9 => by rw [e9]; exact hrg0) (fun h8 => Nat.le_trans hSp.1 h8)) (fun v2 H locs hv1 hz3 hf4 hS => ?_)
  obtain ⟨rfl, hC⟩ := hv1
  have hm := hm.keep (fun k hk => hf4 _ (hlt9 k hk) (fun h9 => h9.elim (hmm k hk).2.1 (Nat.not_le.mpr (hlt9 k hk))))
  refine W.eq (g2 := F0 m 704 ls [.int ((kp RV (xs ((6 * k9) + 1)) (o_remove tb RV (xs ((6 * k9) + 2)) (xs ((6 * k9) + 3)))).1)]) rfl ?_
  refine lv_aload_n hx hb d_L_704 rfl (lv_at hl 1 rfl) ?_
  refine lv_aload_n hx hb d_L_705 rfl (lv_at hl 3 rfl) ?_
  refine lv_iload_n hx hb d_L_706 rfl (lv_at hl 0 rfl) ?_
  refine lv_iconst (v := 1) hx hb d_L_707 (by decide) ?_
  refine lv_iadd hx hb d_L_708 ?_
  rw [show (((nI (6 * k9)) + 1) : Int32) = nI ((6 * k9) + 1) from nI_add (6 * k9) 1]
  refine z_sld hx hb hX hbl hbA hS ((6 * k9) + 1) rfl (by omega) hL d_L_709 ?_
  refine lv_aload_n hx hb d_L_710 rfl (lv_at hl 3 rfl) ?_
  refine lv_iload_n hx hb d_L_711 rfl (lv_at hl 0 rfl) ?_
  refine lv_iconst (v := 2) hx hb d_L_712 (by decide) ?_
  refine lv_iadd hx hb d_L_713 ?_
  rw [show (((nI (6 * k9)) + 2) : Int32) = nI ((6 * k9) + 2) from nI_add (6 * k9) 2]
  refine z_sld hx hb hX hbl hbA hS ((6 * k9) + 2) rfl (by omega) hL d_L_714 ?_
  refine lv_aload_n hx hb d_L_715 rfl (lv_at hl 3 rfl) ?_
  refine lv_iload_n hx hb d_L_716 rfl (lv_at hl 0 rfl) ?_
  refine lv_iconst (v := 3) hx hb d_L_717 (by decide) ?_
  refine lv_iadd hx hb d_L_718 ?_
  rw [show (((nI (6 * k9)) + 3) : Int32) = nI ((6 * k9) + 3) from nI_add (6 * k9) 3]
  refine z_sld hx hb hX hbl hbA hS ((6 * k9) + 3) rfl (by omega) hL d_L_719 ?_
  obtain ⟨fs9, hmo⟩ := mI_obj hm
  refine z_callQ (va_runV (C := "ValueTreesModel") (As := [.int (xs ((6 * k9) + 1)), .int (xs ((6 * k9) + 2)), .int (xs ((6 * k9) + 3))]) (rest := [.int ((kp RV (xs ((6 * k9) + 1)) (o_remove tb RV (xs ((6 * k9) + 2)) (xs ((6 * k9) + 3)))).1)]) ⟨hx, hb, hml, hown, hts⟩ (p_M_remove l D dT _ mm tb tc RV hm (xs ((6 * k9) + 1)) (xs ((6 * k9) + 2)) (xs ((6 * k9) + 3))) ⟨callB_of 3 hts (gI gd_lw gd_l q782) rfl rfl rfl (ht _ q10) (ht _ q779) hd_M_remove ⟨Nat.le_of_ble_eq_true rfl, Nat.le_of_ble_eq_true rfl⟩, ht _ q780, ht _ q781⟩ (z_preV hK (z_recv hK hmo rfl)) rfl rfl hl.1 rfl (lv_room (Nat.le_of_ble_eq_true rfl)) d_L_720 ⟨by show cells + 2 + 0 ≤ 600000; omega, by show slots + 90 + 0 ≤ 7302250; omega⟩) hS (fun q9 h9 => by obtain ⟨k, hk, e9⟩ := h9; rw [e9]; exact (hmm k hk).2.2.2.2) (fun v6 H locs hv5 hz7 hf8 hS => ?_)
  obtain ⟨rfl, hm⟩ := hv5
  have hC := hC.keepM hz7 hf8 (fun k hk => (hmm k hk).1) (fun k hk => (hmm k hk).2.1) (fun k hk => (hmm k hk).2.2.1) (fun k hk => (hmm k hk).2.2.2.1)
  refine W.eq (g2 := F0 m 723 ls [.int ((kp RV (xs ((6 * k9) + 1)) (o_remove tb RV (xs ((6 * k9) + 2)) (xs ((6 * k9) + 3)))).1), .int ((kp RV (xs ((6 * k9) + 1)) (o_remove tb RV (xs ((6 * k9) + 2)) (xs ((6 * k9) + 3)))).1)]) rfl ?_
  refine lv_icmp_eq (tgt := 1170) hx hb d_L_723 (by decide) (fun _ => ?_) (fun h9 => absurd rfl h9)
  refine W.widen (k := cells + 5) (n := slots + 3100) (by omega) (by omega) ?_
  exact kk _ _ ls hl hS ⟨B, ed, _, _, _, hC, hm, hmm, hrg0, hli0, hed0⟩
