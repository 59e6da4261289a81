set_option maxHeartbeats 4000000 in
set_option maxRecDepth 100000 in
/-- from the entry, for every script of at most 3072 ints, the law comes to its end with true -/
theorem whole_start {p : Program} {e : Env} {s : State} {m : MethodId} {below : List Frame} {meth : Method} {c : Code} (l : Launch) {b L : Nat} {xs : Nat → Int32} (hL : L ≤ 3072) (C0 : lw_At p s m meth c b L xs) : W p l e room_1 s m #[Value.ref b] below meth c s.heap [] 0 0 (lw_Z below #[Value.ref b] s) (entryFrame m ([Value.ref b] : List Value).toArray 4) := by
  have C1 := C0
  obtain ⟨hx, hb, hr, hml, hown, hts, hX, hbl, hlocks, hgv⟩ := C0
  have hown : s.vm.findClass "ValueTreesLaw" = some m.cls := hown
  have ht : ∀ w ∈ gt, w.before #[Value.ref b] s = true := fun w h => hts w (gt_in h)
  obtain ⟨D, dT, hK⟩ := law_K hts hgv
  obtain ⟨dd, hZ⟩ := law_Z hts hgv
  have hS : va_S (fun q => s.heap.size ≤ q) s.heap s.heap [] := va_S.rf
  have hl := lv_entry ([.ref b]) (n := 4) (Nat.le_of_ble_eq_true rfl)
  rw [lg_entry_eq]
  generalize (lg_sl ([.ref b]) ++ List.replicate (4 - (lg_sl ([.ref b])).length) Slot.unset).toArray = ls at hl ⊢
  have hl : lv_has ls 4 [(0, .ref b)] := hl
  have hSp := hS
  refine z_newo (ci := 0) hx hb ht in_V ty_V tyk_V hown (ht _ q21) (ht _ q22) (ht _ q1) hK hS rfl fs_V (Nat.le_of_ble_eq_true rfl) (Nat.le_of_ble_eq_true rfl) d_L_0 (fun ad1 H hqad1 hzad1 oad1 hoad1 hS => ?_)
  have hgad1 : s.heap.size ≤ ad1 := by rw [hqad1]; exact hSp.1
  have hAad1 : (fun q => s.heap.size ≤ q) ad1 := hgad1
  refine lv_dup hx hb d_L_3 rfl ?_
  have hSp := hS
  refine z_callQ (va_runI (As := []) (rest := [.ref ad1]) ⟨hx, hb, hml, hown, hts⟩ (c_V_init l D dT _ dd (fun q => s.heap.size ≤ q) ad1 oad1 hgad1 (fun q9 h9 => Nat.le_trans hS.1 h9)) ⟨callB_of 0 hts (gI gd_lw gd_l q25) rfl rfl rfl (ht _ q1) (ht _ q23) hd_V_init ⟨Nat.le_of_ble_eq_true rfl, Nat.le_of_ble_eq_true rfl⟩, rfl, ht _ q24⟩ (z_preSZ hK hZ hS (fun _ h9 => h9)) rfl rfl hl.1 rfl (lv_room (Nat.le_of_ble_eq_true rfl)) d_L_4 ⟨(Nat.le_of_ble_eq_true rfl), (Nat.le_of_ble_eq_true rfl)⟩) hS (fun q9 h9 => h9.elim (fun e9 => by rw [e9]; exact hgad1) (fun h8 => Nat.le_trans hSp.1 h8)) (fun v3 H locs hv2 hz4 hf5 hS => ?_)
  obtain ⟨rfl, B, rg, li, ed, hC, hBn⟩ := hv2
  have hBn : ∀ q, B q → s.heap.size ≤ q := fun q h9 => Nat.le_trans hSp.1 (hBn q h9)
  have hN : nU H H := nU.rf
  refine W.eq (g2 := F0 m 7 ls [.ref ad1]) rfl ?_
  refine lv_astore_n (lv' := [(1, .ref ad1), (0, .ref b)]) hx hb d_L_7 rfl hl (by decide) rfl (fun ls hl => ?_)
  have hSp := hS
  refine z_newo (ci := 10) hx hb ht in_M ty_M tyk_M hown (ht _ q533) (ht _ q534) (ht _ q10) hK hS rfl fs_M (Nat.le_of_ble_eq_true rfl) (Nat.le_of_ble_eq_true rfl) d_L_8 (fun ad6 H hqad6 hzad6 oad6 hoad6 hS => ?_)
  have hgad6 : s.heap.size ≤ ad6 := by rw [hqad6]; exact hSp.1
  have hAad6 : (fun q => s.heap.size ≤ q) ad6 := hgad6
  have hgbad6 := Nat.le_trans hN.1 (Nat.le_of_eq hqad6.symm)
  have hN := hN.grew hzad6 hoad6
  refine lv_dup hx hb d_L_11 rfl ?_
  have hSp := hS
  have hNp := hN.1
  refine z_callQ (va_runI (As := []) (rest := [.ref ad6]) ⟨hx, hb, hml, hown, hts⟩ (c_M_init l D dT _ ad6 oad6) ⟨callB_of 0 hts (gI gd_lw gd_l q537) rfl rfl rfl (ht _ q10) (ht _ q535) hd_M_init ⟨Nat.le_of_ble_eq_true rfl, Nat.le_of_ble_eq_true rfl⟩, rfl, ht _ q536⟩ (z_preS hK) rfl rfl hl.1 rfl (lv_room (Nat.le_of_ble_eq_true rfl)) d_L_12 ⟨(Nat.le_of_ble_eq_true rfl), (Nat.le_of_ble_eq_true rfl)⟩) hS (fun q9 h9 => h9.elim (fun e9 => by rw [e9]; exact hgad6) (fun h8 => Nat.le_trans hSp.1 h8)) (fun v8 H locs hv7 hz9 hf10 hS => ?_)
  obtain ⟨rfl, mm, hm0, hm, hmk⟩ := hv7
  have hN := hN.call hz9 hf10 (fun x hx h9 => h9.elim (fun e9 => by omega) (fun h8 => absurd (Nat.lt_of_lt_of_le hx hNp) (Nat.not_lt.mpr h8)))
  have hge : ∀ k, k < 10 → _ ≤ mm k := fun k hk => (Nat.eq_zero_or_pos k).elim (fun e9 => by rw [e9, hm0]; exact hgbad6) (fun h9 => Nat.le_trans hNp (hmk k h9 hk))
  have hmn : ∀ k, k < 10 → s.heap.size ≤ mm k := fun k hk => (Nat.eq_zero_or_pos k).elim (fun e9 => by rw [e9, hm0]; exact hgad6) (fun h9 => Nat.le_trans hSp.1 (hmk k h9 hk))
  obtain ⟨hb0, hb1, hb2, hb3, -⟩ := hC.1
  have hC2 := cI_wide hC hN hge (fun k hk => mI_lt hm hk)
  have hI : lI D dT s.heap.size ad1 rg li mm H := ⟨fun q => B q ∨ mA mm q, ed, tb0, 10, fun _ => none, hC2, hm, fun k hk => ⟨Or.inr ⟨k, hk, rfl⟩, fun e9 => absurd (hb0 rg hb1) (Nat.not_lt.mpr (by rw [← e9]; exact hge k hk)), fun e9 => absurd (hb0 li hb2) (Nat.not_lt.mpr (by rw [← e9]; exact hge k hk)), fun e9 => absurd (hb0 ed hb3) (Nat.not_lt.mpr (by rw [← e9]; exact hge k hk)), hmn k hk⟩, hBn rg hb1, hBn li hb2, hBn ed hb3⟩
  subst hm0
  refine W.eq (g2 := F0 m 15 ls [.ref (mm 0)]) rfl ?_
  refine lv_astore_n (lv' := [(2, .ref (mm 0)), (1, .ref ad1), (0, .ref b)]) hx hb d_L_15 rfl hl (by decide) rfl (fun ls hl => ?_)
  refine lv_iconst (v := 0) hx hb d_L_16 (by decide) ?_
  refine lv_istore_n (lv' := [(3, .int 0), (2, .ref (mm 0)), (1, .ref ad1), (0, .ref b)]) hx hb d_L_17 rfl hl (by decide) rfl (fun ls hl => ?_)
  have hl := lv_sub (l' := [(3, .int 0), (2, .ref (mm 0)), (1, .ref ad1), (0, .ref b)]) hl [0, 1, 2, 3] rfl
  refine W.widen (k := 33 + 5 * 0) (n := 36365 + 3100 * 0) (Nat.le_of_ble_eq_true rfl) (Nat.le_of_ble_eq_true rfl) ?_
  exact law_loop l hL C1 D dT hK ad1 rg li mm 514 0 (by omega) (by omega) H locs ls hl hS hI
